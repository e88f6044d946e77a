section SFL
theorem pe_isPlace (d n : Nat) {t0 : en_H} {x y o e : Nat} (g0 : ai_HG ah_G t0) (k0 : ai_hv t0 389 0 = some (.inl o)) (k1 : ai_hv t0 389 1 = some (.inl e)) (hxx : x < 4294967296) (hyy : y < 4294967296) (ho : o ≤ 8) (he : e ≤ 8) : ∃ r, en_u (d + 1) 103 [gx_r 383, .inl x, .inl y] t0 n = some r ∧ ∃ b, r = (some (.inl b), t0, n, 0) ∧ (b ≤ 1 ∧ (b = 1 ↔ x < o ∧ y < e)) := by
  refine en_u_ex rfl ?_
  show en_ex _ _ _ _ (0, [(0, gx_r 383), (1, .inl x), (2, .inl y)], [], t0, n, 0) _
  by_cases hx : 2147483648 ≤ x
  · refine ex_go (S := (1, [(0, gx_r 383), (1, .inl x), (2, .inl y)], [.inl x], t0, n, 0)) rfl (fun _ => rfl) rfl ?_
    refine gx_negt (c := .lt) rfl (by first | decide | omega) (by first | decide | omega) rfl rfl ?_
    refine ex_go (S := (33, [(0, gx_r 383), (1, .inl x), (2, .inl y)], [.inl 0], t0, n, 0)) rfl (fun _ => rfl) rfl ?_
    refine ex_ret (r := (some (.inl 0), t0, n, 0)) rfl (fun _ => rfl) ?_
    exact ⟨_, rfl, 0, rfl, by omega⟩
  · by_cases hy : 2147483648 ≤ y
    · refine ex_go (S := (1, [(0, gx_r 383), (1, .inl x), (2, .inl y)], [.inl x], t0, n, 0)) rfl (fun _ => rfl) rfl ?_
      by_cases hc1 : x < 0
      · refine gx_1t (c := .lt) rfl (by first | decide | omega) hc1 rfl ?_
        refine ex_go (S := (33, [(0, gx_r 383), (1, .inl x), (2, .inl y)], [.inl 0], t0, n, 0)) rfl (fun _ => rfl) rfl ?_
        refine ex_ret (r := (some (.inl 0), t0, n, 0)) rfl (fun _ => rfl) ?_
        exact ⟨_, rfl, 0, rfl, by omega⟩
      · refine gx_1f (c := .lt) rfl (by first | decide | omega) hc1 rfl ?_
        refine ex_go (S := (5, [(0, gx_r 383), (1, .inl x), (2, .inl y)], [.inl x], t0, n, 0)) rfl (fun _ => rfl) rfl ?_
        refine ex_go (S := (6, [(0, gx_r 383), (1, .inl x), (2, .inl y)], [gx_r 383, .inl x], t0, n, 0)) rfl (fun _ => rfl) rfl ?_
        refine gx_ref (c := 389) rfl g0 rfl rfl rfl rfl ?_
        refine ex_go (S := (10, [(0, gx_r 383), (1, .inl x), (2, .inl y)], [.inl 0, gx_r 389, .inl x], t0, n, 0)) rfl (fun _ => rfl) rfl ?_
        refine gx_ag (v := .inl o) (cb := fun c => Nat.beq c 0) rfl (fun _ => rfl) g0 rfl rfl k0 (by first | decide | omega) rfl ?_
        by_cases hc2 : o ≤ x
        · refine gx_2t (c := .ge) rfl (by first | decide | omega) (by first | decide | omega) hc2 rfl ?_
          refine ex_go (S := (33, [(0, gx_r 383), (1, .inl x), (2, .inl y)], [.inl 0], t0, n, 0)) rfl (fun _ => rfl) rfl ?_
          refine ex_ret (r := (some (.inl 0), t0, n, 0)) rfl (fun _ => rfl) ?_
          exact ⟨_, rfl, 0, rfl, by omega⟩
        · refine gx_2f (c := .ge) rfl (by first | decide | omega) (by first | decide | omega) hc2 rfl ?_
          refine ex_go (S := (15, [(0, gx_r 383), (1, .inl x), (2, .inl y)], [.inl y], t0, n, 0)) rfl (fun _ => rfl) rfl ?_
          refine gx_negt (c := .lt) rfl (by first | decide | omega) (by first | decide | omega) rfl rfl ?_
          refine ex_go (S := (33, [(0, gx_r 383), (1, .inl x), (2, .inl y)], [.inl 0], t0, n, 0)) rfl (fun _ => rfl) rfl ?_
          refine ex_ret (r := (some (.inl 0), t0, n, 0)) rfl (fun _ => rfl) ?_
          exact ⟨_, rfl, 0, rfl, by omega⟩
    · refine ex_go (S := (1, [(0, gx_r 383), (1, .inl x), (2, .inl y)], [.inl x], t0, n, 0)) rfl (fun _ => rfl) rfl ?_
      by_cases hc1 : x < 0
      · refine gx_1t (c := .lt) rfl (by first | decide | omega) hc1 rfl ?_
        refine ex_go (S := (33, [(0, gx_r 383), (1, .inl x), (2, .inl y)], [.inl 0], t0, n, 0)) rfl (fun _ => rfl) rfl ?_
        refine ex_ret (r := (some (.inl 0), t0, n, 0)) rfl (fun _ => rfl) ?_
        exact ⟨_, rfl, 0, rfl, by omega⟩
      · refine gx_1f (c := .lt) rfl (by first | decide | omega) hc1 rfl ?_
        refine ex_go (S := (5, [(0, gx_r 383), (1, .inl x), (2, .inl y)], [.inl x], t0, n, 0)) rfl (fun _ => rfl) rfl ?_
        refine ex_go (S := (6, [(0, gx_r 383), (1, .inl x), (2, .inl y)], [gx_r 383, .inl x], t0, n, 0)) rfl (fun _ => rfl) rfl ?_
        refine gx_ref (c := 389) rfl g0 rfl rfl rfl rfl ?_
        refine ex_go (S := (10, [(0, gx_r 383), (1, .inl x), (2, .inl y)], [.inl 0, gx_r 389, .inl x], t0, n, 0)) rfl (fun _ => rfl) rfl ?_
        refine gx_ag (v := .inl o) (cb := fun c => Nat.beq c 0) rfl (fun _ => rfl) g0 rfl rfl k0 (by first | decide | omega) rfl ?_
        by_cases hc2 : o ≤ x
        · refine gx_2t (c := .ge) rfl (by first | decide | omega) (by first | decide | omega) hc2 rfl ?_
          refine ex_go (S := (33, [(0, gx_r 383), (1, .inl x), (2, .inl y)], [.inl 0], t0, n, 0)) rfl (fun _ => rfl) rfl ?_
          refine ex_ret (r := (some (.inl 0), t0, n, 0)) rfl (fun _ => rfl) ?_
          exact ⟨_, rfl, 0, rfl, by omega⟩
        · refine gx_2f (c := .ge) rfl (by first | decide | omega) (by first | decide | omega) hc2 rfl ?_
          refine ex_go (S := (15, [(0, gx_r 383), (1, .inl x), (2, .inl y)], [.inl y], t0, n, 0)) rfl (fun _ => rfl) rfl ?_
          by_cases hc3 : y < 0
          · refine gx_1t (c := .lt) rfl (by first | decide | omega) hc3 rfl ?_
            refine ex_go (S := (33, [(0, gx_r 383), (1, .inl x), (2, .inl y)], [.inl 0], t0, n, 0)) rfl (fun _ => rfl) rfl ?_
            refine ex_ret (r := (some (.inl 0), t0, n, 0)) rfl (fun _ => rfl) ?_
            exact ⟨_, rfl, 0, rfl, by omega⟩
          · refine gx_1f (c := .lt) rfl (by first | decide | omega) hc3 rfl ?_
            refine ex_go (S := (19, [(0, gx_r 383), (1, .inl x), (2, .inl y)], [.inl y], t0, n, 0)) rfl (fun _ => rfl) rfl ?_
            refine ex_go (S := (20, [(0, gx_r 383), (1, .inl x), (2, .inl y)], [gx_r 383, .inl y], t0, n, 0)) rfl (fun _ => rfl) rfl ?_
            refine gx_ref (c := 389) rfl g0 rfl rfl rfl rfl ?_
            refine ex_go (S := (24, [(0, gx_r 383), (1, .inl x), (2, .inl y)], [.inl 1, gx_r 389, .inl y], t0, n, 0)) rfl (fun _ => rfl) rfl ?_
            refine gx_ag (v := .inl e) (cb := fun c => Nat.beq c 0) rfl (fun _ => rfl) g0 rfl rfl k1 (by first | decide | omega) rfl ?_
            by_cases hc4 : e ≤ y
            · refine gx_2t (c := .ge) rfl (by first | decide | omega) (by first | decide | omega) hc4 rfl ?_
              refine ex_go (S := (33, [(0, gx_r 383), (1, .inl x), (2, .inl y)], [.inl 0], t0, n, 0)) rfl (fun _ => rfl) rfl ?_
              refine ex_ret (r := (some (.inl 0), t0, n, 0)) rfl (fun _ => rfl) ?_
              exact ⟨_, rfl, 0, rfl, by omega⟩
            · refine gx_2f (c := .ge) rfl (by first | decide | omega) (by first | decide | omega) hc4 rfl ?_
              refine ex_go (S := (29, [(0, gx_r 383), (1, .inl x), (2, .inl y)], [.inl 1], t0, n, 0)) rfl (fun _ => rfl) rfl ?_
              refine ex_go (S := (33, [(0, gx_r 383), (1, .inl x), (2, .inl y)], [.inl 1], t0, n, 0)) rfl (fun _ => rfl) rfl ?_
              refine ex_ret (r := (some (.inl 1), t0, n, 0)) rfl (fun _ => rfl) ?_
              exact ⟨_, rfl, 1, rfl, by omega⟩
theorem pc_flow191 (d n : Nat) {t0 : en_H} {x y o e : Nat} {F : Nat → Nat} (g0 : ai_HG ah_G t0) (kq : ai_hv t0 0 10 = some (gx_r 191)) (k0 : ai_hv t0 191 0 = some (.inl o)) (k1 : ai_hv t0 191 1 = some (.inl e)) (kF : ∀ j, j < 64 → ai_hv t0 192 j = some (.inl (F j))) (hxx : x < 4294967296) (hyy : y < 4294967296) (ho : o ≤ 8) (he : e ≤ 8) : ∃ r, en_u (d + 2) 36 [gx_r 0, .inl x, .inl y] t0 n = some r ∧ ∃ v t', r = (some (.inl v), t', n, 0) ∧ (∀ c i, ¬ (c = 383 ∧ i = 0) → ai_hv t' c i = ai_hv t0 c i) ∧ ((x < o ∧ y < e → v = F (8 * y + x)) ∧ (¬ (x < o ∧ y < e) → v = 4294967295)) := by
  refine en_u_ex (d := d + 1) rfl ?_
  show en_ex _ _ _ _ (0, [(0, gx_r 0), (1, .inl x), (2, .inl y)], [], t0, n, 0) _
  refine ex_go (S := (1, [(0, gx_r 0), (1, .inl x), (2, .inl y)], [gx_r 0], t0, n, 0)) rfl (fun _ => rfl) rfl ?_
  refine gxo_get (a := 0) rfl g0 rfl rfl kq rfl ?_
  refine ex_go (S := (5, [(0, gx_r 0), (1, .inl x), (2, .inl y)], [.inl x, gx_r 191], t0, n, 0)) rfl (fun _ => rfl) rfl ?_
  refine ex_go (S := (6, [(0, gx_r 0), (1, .inl x), (2, .inl y)], [.inl y, .inl x, gx_r 191], t0, n, 0)) rfl (fun _ => rfl) rfl ?_
  obtain ⟨_, r1, b2, rfl, q3⟩ := pc_isPlace191 (d) n (x := x) (y := y) g0 k0 k1 hxx hyy ho he
  refine gx_callo (a := 191) rfl rfl g0 rfl rfl rfl r1 rfl ?_
  show en_ex _ _ _ _ (9, [(0, gx_r 0), (1, .inl x), (2, .inl y)], [.inl b2], t0, n, 0) _
  by_cases hc4 : b2 = 0
  · refine gx_1t (c := .eq) rfl (by first | decide | omega) hc4 rfl ?_
    refine ex_go (S := (29, [(0, gx_r 0), (1, .inl x), (2, .inl y)], [.inl 4294967295], t0, n, 0)) rfl (fun _ => rfl) rfl ?_
    refine ex_ret (r := (some (.inl 4294967295), t0, n, 0)) rfl (fun _ => rfl) ?_
    exact ⟨_, rfl, _, t0, rfl, (fun c i h => rfl), fun h => absurd (q3.2.mpr h) (by first | decide | omega), fun _ => rfl⟩
  · refine gx_1f (c := .eq) rfl (by first | decide | omega) hc4 rfl ?_
    have hin := q3.2.mp (by first | decide | omega)
    refine ex_go (S := (13, [(0, gx_r 0), (1, .inl x), (2, .inl y)], [gx_r 0], t0, n, 0)) rfl (fun _ => rfl) rfl ?_
    refine gxo_get (a := 0) rfl g0 rfl rfl kq rfl ?_
    refine gxo_ref (a := 191) (c := 192) rfl g0 rfl rfl rfl rfl rfl ?_
    refine ex_go (S := (20, [(0, gx_r 0), (1, .inl x), (2, .inl y)], [.inl x, gx_r 192], t0, n, 0)) rfl (fun _ => rfl) rfl ?_
    refine ex_go (S := (21, [(0, gx_r 0), (1, .inl x), (2, .inl y)], [.inl y, .inl x, gx_r 192], t0, n, 0)) rfl (fun _ => rfl) rfl ?_
    obtain ⟨_, r5, rfl⟩ := pc_placeOf2 (d) n (t0 := t0) (x := x) (y := y) (by first | decide | omega) (by first | decide | omega)
    refine ex_stat rfl rfl rfl rfl rfl r5 (Nat.le_refl _) rfl ?_
    show en_ex _ _ _ _ (24, [(0, gx_r 0), (1, .inl x), (2, .inl y)], [.inl (x + (8 * y)), gx_r 192], t0, n, 0) _
    have k6 : ai_hv t0 192 (x + (8 * y)) = some (.inl (F (8 * y + x))) := by rw [show x + (8 * y) = 8 * y + x by omega]; exact kF _ (by first | decide | omega)
    refine gx_ag (v := .inl (F (8 * y + x))) (cb := fun c => Nat.beq c 0) rfl (fun _ => rfl) g0 rfl rfl k6 (by first | decide | omega) rfl ?_
    refine ex_go (S := (29, [(0, gx_r 0), (1, .inl x), (2, .inl y)], [.inl (F (8 * y + x))], t0, n, 0)) rfl (fun _ => rfl) rfl ?_
    refine ex_ret (r := (some (.inl (F (8 * y + x))), t0, n, 0)) rfl (fun _ => rfl) ?_
    exact ⟨_, rfl, _, t0, rfl, (fun c i h => rfl), fun _ => rfl, fun h => absurd (q3.2.mp (by first | decide | omega)) h⟩
theorem pc_flow257 (d n : Nat) {t0 : en_H} {x y o e : Nat} {F : Nat → Nat} (g0 : ai_HG ah_G t0) (kq : ai_hv t0 0 10 = some (gx_r 257)) (k0 : ai_hv t0 257 0 = some (.inl o)) (k1 : ai_hv t0 257 1 = some (.inl e)) (kF : ∀ j, j < 64 → ai_hv t0 258 j = some (.inl (F j))) (hxx : x < 4294967296) (hyy : y < 4294967296) (ho : o ≤ 8) (he : e ≤ 8) : ∃ r, en_u (d + 2) 36 [gx_r 0, .inl x, .inl y] t0 n = some r ∧ ∃ v t', r = (some (.inl v), t', n, 0) ∧ (∀ c i, ¬ (c = 383 ∧ i = 0) → ai_hv t' c i = ai_hv t0 c i) ∧ ((x < o ∧ y < e → v = F (8 * y + x)) ∧ (¬ (x < o ∧ y < e) → v = 4294967295)) := by
  refine en_u_ex (d := d + 1) rfl ?_
  show en_ex _ _ _ _ (0, [(0, gx_r 0), (1, .inl x), (2, .inl y)], [], t0, n, 0) _
  refine ex_go (S := (1, [(0, gx_r 0), (1, .inl x), (2, .inl y)], [gx_r 0], t0, n, 0)) rfl (fun _ => rfl) rfl ?_
  refine gxo_get (a := 0) rfl g0 rfl rfl kq rfl ?_
  refine ex_go (S := (5, [(0, gx_r 0), (1, .inl x), (2, .inl y)], [.inl x, gx_r 257], t0, n, 0)) rfl (fun _ => rfl) rfl ?_
  refine ex_go (S := (6, [(0, gx_r 0), (1, .inl x), (2, .inl y)], [.inl y, .inl x, gx_r 257], t0, n, 0)) rfl (fun _ => rfl) rfl ?_
  obtain ⟨_, r1, b2, rfl, q3⟩ := pc_isPlace257 (d) n (x := x) (y := y) g0 k0 k1 hxx hyy ho he
  refine gx_callo (a := 257) rfl rfl g0 rfl rfl rfl r1 rfl ?_
  show en_ex _ _ _ _ (9, [(0, gx_r 0), (1, .inl x), (2, .inl y)], [.inl b2], t0, n, 0) _
  by_cases hc4 : b2 = 0
  · refine gx_1t (c := .eq) rfl (by first | decide | omega) hc4 rfl ?_
    refine ex_go (S := (29, [(0, gx_r 0), (1, .inl x), (2, .inl y)], [.inl 4294967295], t0, n, 0)) rfl (fun _ => rfl) rfl ?_
    refine ex_ret (r := (some (.inl 4294967295), t0, n, 0)) rfl (fun _ => rfl) ?_
    exact ⟨_, rfl, _, t0, rfl, (fun c i h => rfl), fun h => absurd (q3.2.mpr h) (by first | decide | omega), fun _ => rfl⟩
  · refine gx_1f (c := .eq) rfl (by first | decide | omega) hc4 rfl ?_
    have hin := q3.2.mp (by first | decide | omega)
    refine ex_go (S := (13, [(0, gx_r 0), (1, .inl x), (2, .inl y)], [gx_r 0], t0, n, 0)) rfl (fun _ => rfl) rfl ?_
    refine gxo_get (a := 0) rfl g0 rfl rfl kq rfl ?_
    refine gxo_ref (a := 257) (c := 258) rfl g0 rfl rfl rfl rfl rfl ?_
    refine ex_go (S := (20, [(0, gx_r 0), (1, .inl x), (2, .inl y)], [.inl x, gx_r 258], t0, n, 0)) rfl (fun _ => rfl) rfl ?_
    refine ex_go (S := (21, [(0, gx_r 0), (1, .inl x), (2, .inl y)], [.inl y, .inl x, gx_r 258], t0, n, 0)) rfl (fun _ => rfl) rfl ?_
    obtain ⟨_, r5, rfl⟩ := pc_placeOf2 (d) n (t0 := t0) (x := x) (y := y) (by first | decide | omega) (by first | decide | omega)
    refine ex_stat rfl rfl rfl rfl rfl r5 (Nat.le_refl _) rfl ?_
    show en_ex _ _ _ _ (24, [(0, gx_r 0), (1, .inl x), (2, .inl y)], [.inl (x + (8 * y)), gx_r 258], t0, n, 0) _
    have k6 : ai_hv t0 258 (x + (8 * y)) = some (.inl (F (8 * y + x))) := by rw [show x + (8 * y) = 8 * y + x by omega]; exact kF _ (by first | decide | omega)
    refine gx_ag (v := .inl (F (8 * y + x))) (cb := fun c => Nat.beq c 0) rfl (fun _ => rfl) g0 rfl rfl k6 (by first | decide | omega) rfl ?_
    refine ex_go (S := (29, [(0, gx_r 0), (1, .inl x), (2, .inl y)], [.inl (F (8 * y + x))], t0, n, 0)) rfl (fun _ => rfl) rfl ?_
    refine ex_ret (r := (some (.inl (F (8 * y + x))), t0, n, 0)) rfl (fun _ => rfl) ?_
    exact ⟨_, rfl, _, t0, rfl, (fun c i h => rfl), fun _ => rfl, fun h => absurd (q3.2.mp (by first | decide | omega)) h⟩
theorem pe_flow (d n : Nat) {t0 : en_H} {x y o e : Nat} {F : Nat → Nat} (g0 : ai_HG ah_G t0) (k0 : ai_hv t0 389 0 = some (.inl o)) (k1 : ai_hv t0 389 1 = some (.inl e)) (kF : ∀ j, j < 64 → ai_hv t0 389 (12 + j) = some (.inl (F j))) (hxx : x < 4294967296) (hyy : y < 4294967296) (ho : o ≤ 8) (he : e ≤ 8) : ∃ r, en_u (d + 2) 37 [gx_r 383, .inl x, .inl y] t0 n = some r ∧ ∃ v t', r = (some (.inl v), t', n, 0) ∧ (∀ c i, ¬ (c = 383 ∧ i = 0) → ai_hv t' c i = ai_hv t0 c i) ∧ ((x < o ∧ y < e → v = F (8 * y + x)) ∧ (¬ (x < o ∧ y < e) → v = 4294967295)) := by
  refine en_u_ex (d := d + 1) rfl ?_
  show en_ex _ _ _ _ (0, [(0, gx_r 383), (1, .inl x), (2, .inl y)], [], t0, n, 0) _
  refine ex_go (S := (1, [(0, gx_r 383), (1, .inl x), (2, .inl y)], [gx_r 383], t0, n, 0)) rfl (fun _ => rfl) rfl ?_
  refine ex_go (S := (2, [(0, gx_r 383), (1, .inl x), (2, .inl y)], [.inl 0, gx_r 383], t0, n, 0)) rfl (fun _ => rfl) rfl ?_
  refine gx_put rfl g0 rfl rfl (ai_in_h (by first | decide | omega) (by first | decide | omega) (by first | decide | omega)) rfl (fun t101 g101 k101 e101 => ?_)
  have k2 : ai_hv t101 389 0 = some (.inl o) := (e101 389 0 (by first | decide | omega)).trans k0
  have k3 : ai_hv t101 389 1 = some (.inl e) := (e101 389 1 (by first | decide | omega)).trans k1
  refine ex_go (S := (6, [(0, gx_r 383), (1, .inl x), (2, .inl y)], [gx_r 383], t101, n, 0)) rfl (fun _ => rfl) rfl ?_
  refine ex_go (S := (7, [(0, gx_r 383), (1, .inl x), (2, .inl y)], [.inl x, gx_r 383], t101, n, 0)) rfl (fun _ => rfl) rfl ?_
  refine ex_go (S := (8, [(0, gx_r 383), (1, .inl x), (2, .inl y)], [.inl y, .inl x, gx_r 383], t101, n, 0)) rfl (fun _ => rfl) rfl ?_
  obtain ⟨_, r4, b5, rfl, q6⟩ := pe_isPlace (d) n (x := x) (y := y) g101 k2 k3 hxx hyy ho he
  refine gx_callo (a := 383) rfl rfl g101 rfl rfl rfl r4 rfl ?_
  show en_ex _ _ _ _ (11, [(0, gx_r 383), (1, .inl x), (2, .inl y)], [.inl b5], t101, n, 0) _
  by_cases hc7 : b5 = 0
  · refine gx_1t (c := .eq) rfl (by first | decide | omega) hc7 rfl ?_
    refine ex_go (S := (32, [(0, gx_r 383), (1, .inl x), (2, .inl y)], [.inl 4294967295], t101, n, 0)) rfl (fun _ => rfl) rfl ?_
    refine ex_ret (r := (some (.inl 4294967295), t101, n, 0)) rfl (fun _ => rfl) ?_
    exact ⟨_, rfl, _, t101, rfl, (fun c i h => e101 c i (by first | decide | omega)), fun h => absurd (q6.2.mpr h) (by first | decide | omega), fun _ => rfl⟩
  · refine gx_1f (c := .eq) rfl (by first | decide | omega) hc7 rfl ?_
    have hin := q6.2.mp (by first | decide | omega)
    refine ex_go (S := (15, [(0, gx_r 383), (1, .inl x), (2, .inl y)], [gx_r 383], t101, n, 0)) rfl (fun _ => rfl) rfl ?_
    refine gx_ref (c := 389) rfl g101 rfl rfl rfl rfl ?_
    refine ex_go (S := (20, [(0, gx_r 383), (1, .inl x), (2, .inl y)], [.inl 12, gx_r 389], t101, n, 0)) rfl (fun _ => rfl) rfl ?_
    refine ex_go (S := (22, [(0, gx_r 383), (1, .inl x), (2, .inl y)], [.inl 8, .inl 12, gx_r 389], t101, n, 0)) rfl (fun _ => rfl) rfl ?_
    refine ex_go (S := (23, [(0, gx_r 383), (1, .inl x), (2, .inl y)], [.inl y, .inl 8, .inl 12, gx_r 389], t101, n, 0)) rfl (fun _ => rfl) rfl ?_
    refine gx_imul rfl (by first | decide | omega) rfl ?_
    refine ex_iadd rfl (by first | decide | omega) rfl ?_
    refine ex_go (S := (26, [(0, gx_r 383), (1, .inl x), (2, .inl y)], [.inl x, .inl (12 + (8 * y)), gx_r 389], t101, n, 0)) rfl (fun _ => rfl) rfl ?_
    refine ex_iadd rfl (by first | decide | omega) rfl ?_
    have k8 : ai_hv t101 389 ((12 + (8 * y)) + x) = some (.inl (F (8 * y + x))) := by rw [show (12 + (8 * y)) + x = 12 + (8 * y + x) by omega]; exact (e101 389 (12 + (8 * y + x)) (by first | decide | omega)).trans (kF _ (by first | decide | omega))
    refine gx_ag (v := .inl (F (8 * y + x))) (cb := fun c => Nat.beq c 0) rfl (fun _ => rfl) g101 rfl rfl k8 (by first | decide | omega) rfl ?_
    refine ex_go (S := (32, [(0, gx_r 383), (1, .inl x), (2, .inl y)], [.inl (F (8 * y + x))], t101, n, 0)) rfl (fun _ => rfl) rfl ?_
    refine ex_ret (r := (some (.inl (F (8 * y + x))), t101, n, 0)) rfl (fun _ => rfl) ?_
    exact ⟨_, rfl, _, t101, rfl, (fun c i h => e101 c i (by first | decide | omega)), fun _ => rfl, fun h => absurd (q6.2.mp (by first | decide | omega)) h⟩
end SFL
