section SZM
/-! the chances of the gaps: w 0 to 2 how wide, 3 shut -/
noncomputable def gG (q w X : Nat) : Nat := (10 - (q - 2 * w)) * X / 10
noncomputable def gO (q w X Y : Nat) : Nat := max (gG q w X) Y
noncomputable def gs (o q X : Nat) (P : Nat → Nat) : Nat → Nat
  | 0 => (2 * P 3 + 8 * gO q 1 X (P 1)) / 10
  | 1 => (2 * P 3 + 8 * gO q 2 X (P 2)) / 10
  | 2 => (2 * P 3 + 8 * gO q 2 X (P 2)) / 10
  | _ => (o * gO q 0 X (P 0) + (10 - o) * P 3) / 10
noncomputable def gD (o q : Nat) (nx : Nat → Nat) : Nat → Nat → Nat
  | 0 => fun _ => 0
  | d + 1 => gs o q (nx d) (gD o q nx d)
noncomputable def gR (O Q : Nat → Nat) (K : Nat) : Nat → Nat → Nat → Nat
  | 0 => fun _ _ => 1000000
  | r + 1 => gD (O (K - (r + 1))) (Q (K - (r + 1))) (fun d => gR O Q K r d 3)
theorem gG_le {q w X : Nat} (h : X ≤ 1000000) : gG q w X ≤ 1000000 := by
  unfold gG
  have := Nat.mul_le_mul (show 10 - (q - 2 * w) ≤ 10 by omega) h
  omega
theorem gO_le {q w X Y : Nat} (h : X ≤ 1000000) (h2 : Y ≤ 1000000) : gO q w X Y ≤ 1000000 := by
  unfold gO
  exact Nat.max_le.mpr ⟨gG_le h, h2⟩
theorem gs_le {o q X : Nat} {P : Nat → Nat} (ho : o ≤ 10) (h : X ≤ 1000000) (hP : ∀ w, w ≤ 3 → P w ≤ 1000000) (w : Nat) : gs o q X P w ≤ 1000000 := by
  have h3 := hP 3 (by first | decide | omega)
  match w with
  | 0 =>
    have := gO_le (q := q) (w := 1) h (hP 1 (by first | decide | omega))
    show (2 * P 3 + 8 * gO q 1 X (P 1)) / 10 ≤ 1000000
    omega
  | 1 =>
    have := gO_le (q := q) (w := 2) h (hP 2 (by first | decide | omega))
    show (2 * P 3 + 8 * gO q 2 X (P 2)) / 10 ≤ 1000000
    omega
  | 2 =>
    have := gO_le (q := q) (w := 2) h (hP 2 (by first | decide | omega))
    show (2 * P 3 + 8 * gO q 2 X (P 2)) / 10 ≤ 1000000
    omega
  | k + 3 =>
    have h1 := Nat.mul_le_mul_left o (gO_le (q := q) (w := 0) h (hP 0 (by first | decide | omega)))
    have h2 := Nat.mul_le_mul_left (10 - o) h3
    show (o * gO q 0 X (P 0) + (10 - o) * P 3) / 10 ≤ 1000000
    omega
theorem gD_le {o q : Nat} {nx : Nat → Nat} (ho : o ≤ 10) (h : ∀ d, nx d ≤ 1000000) : ∀ d w, gD o q nx d w ≤ 1000000
  | 0, _ => Nat.zero_le _
  | d + 1, w => gs_le ho (h d) (fun w _ => gD_le ho h d w) w
theorem gR_le {O Q : Nat → Nat} {K : Nat} (hO : ∀ g, g < K → O g ≤ 10) : ∀ r, r ≤ K → ∀ d w, gR O Q K r d w ≤ 1000000
  | 0, _, _, _ => Nat.le_refl _
  | r + 1, hr, d, w => gD_le (hO _ (by first | decide | omega)) (fun d => gR_le hO r (by first | decide | omega) d 3) d w
theorem gR_succ {O Q : Nat → Nat} {K r : Nat} (h : r < K) : gR O Q K (K - r) = gD (O r) (Q r) (fun d => gR O Q K (K - (r + 1)) d 3) := by
  have e : K - r = (K - (r + 1)) + 1 := by omega
  rw [e]
  show gD (O (K - (K - (r + 1) + 1))) (Q (K - (K - (r + 1) + 1))) _ = _
  rw [show K - (K - (r + 1) + 1) = r by omega]
theorem pz_isWithin (d n : Nat) {t0 : en_H} {x lo hi : Nat} (hx : x < 4294967296) (h1 : lo < 2147483648) (h2 : hi < 2147483648) : ∃ r, en_u (d + 1) 104 [.inl x, .inl lo, .inl hi] t0 n = some r ∧ ∃ b, r = (some (.inl b), t0, n, 0) ∧ b ≤ 1 ∧ (b = 1 ↔ lo ≤ x ∧ x ≤ hi) := by
  refine en_u_ex rfl ?_
  show en_ex _ _ _ _ (0, [(0, .inl x), (1, .inl lo), (2, .inl hi)], [], t0, n, 0) _
  by_cases hn : 2147483648 ≤ x
  · refine ex_go (S := (1, [(0, .inl x), (1, .inl lo), (2, .inl hi)], [.inl x], t0, n, 0)) rfl (fun _ => rfl) rfl ?_
    refine ex_go (S := (2, [(0, .inl x), (1, .inl lo), (2, .inl hi)], [.inl lo, .inl x], t0, n, 0)) rfl (fun _ => rfl) rfl ?_
    refine gx_2nt (c := .lt) rfl (by first | decide | omega) (by first | decide | omega) (by first | decide | omega) rfl rfl ?_
    refine ex_go (S := (15, [(0, .inl x), (1, .inl lo), (2, .inl hi)], [.inl 0], t0, n, 0)) rfl (fun _ => rfl) rfl ?_
    refine ex_ret (r := (some (.inl 0), t0, n, 0)) rfl (fun _ => rfl) ?_
    exact ⟨_, rfl, 0, rfl, by omega, by omega⟩
  · refine ex_go (S := (1, [(0, .inl x), (1, .inl lo), (2, .inl hi)], [.inl x], t0, n, 0)) rfl (fun _ => rfl) rfl ?_
    refine ex_go (S := (2, [(0, .inl x), (1, .inl lo), (2, .inl hi)], [.inl lo, .inl x], t0, n, 0)) rfl (fun _ => rfl) rfl ?_
    by_cases hc1 : x < lo
    · refine gx_2t (c := .lt) rfl (by first | decide | omega) (by first | decide | omega) hc1 rfl ?_
      refine ex_go (S := (15, [(0, .inl x), (1, .inl lo), (2, .inl hi)], [.inl 0], t0, n, 0)) rfl (fun _ => rfl) rfl ?_
      refine ex_ret (r := (some (.inl 0), t0, n, 0)) rfl (fun _ => rfl) ?_
      exact ⟨_, rfl, 0, rfl, by omega, by omega⟩
    · refine gx_2f (c := .lt) rfl (by first | decide | omega) (by first | decide | omega) hc1 rfl ?_
      refine ex_go (S := (6, [(0, .inl x), (1, .inl lo), (2, .inl hi)], [.inl x], t0, n, 0)) rfl (fun _ => rfl) rfl ?_
      refine ex_go (S := (7, [(0, .inl x), (1, .inl lo), (2, .inl hi)], [.inl hi, .inl x], t0, n, 0)) rfl (fun _ => rfl) rfl ?_
      by_cases hc2 : hi < x
      · refine gx_2t (c := .gt) rfl (by first | decide | omega) (by first | decide | omega) hc2 rfl ?_
        refine ex_go (S := (15, [(0, .inl x), (1, .inl lo), (2, .inl hi)], [.inl 0], t0, n, 0)) rfl (fun _ => rfl) rfl ?_
        refine ex_ret (r := (some (.inl 0), t0, n, 0)) rfl (fun _ => rfl) ?_
        exact ⟨_, rfl, 0, rfl, by omega, by omega⟩
      · refine gx_2f (c := .gt) rfl (by first | decide | omega) (by first | decide | omega) hc2 rfl ?_
        refine ex_go (S := (11, [(0, .inl x), (1, .inl lo), (2, .inl hi)], [.inl 1], t0, n, 0)) rfl (fun _ => rfl) rfl ?_
        refine ex_go (S := (15, [(0, .inl x), (1, .inl lo), (2, .inl hi)], [.inl 1], t0, n, 0)) rfl (fun _ => rfl) rfl ?_
        refine ex_ret (r := (some (.inl 1), t0, n, 0)) rfl (fun _ => rfl) ?_
        exact ⟨_, rfl, 1, rfl, by omega, by omega⟩
theorem pz_within (d n : Nat) {t0 : en_H} {x lo hi : Nat} (hx : x < 4294967296) (h1 : lo < 2147483648) (h2 : hi < 2147483648) : ∃ r, en_u (d + 1) 107 [.inl x, .inl lo, .inl hi] t0 n = some r ∧ ∃ b, r = (some (.inl b), t0, n, 0) ∧ b ≤ 1 ∧ (b = 1 ↔ lo ≤ x ∧ x ≤ hi) := by
  refine en_u_ex rfl ?_
  show en_ex _ _ _ _ (0, [(0, .inl x), (1, .inl lo), (2, .inl hi)], [], t0, n, 0) _
  by_cases hn : 2147483648 ≤ x
  · refine ex_go (S := (1, [(0, .inl x), (1, .inl lo), (2, .inl hi)], [.inl x], t0, n, 0)) rfl (fun _ => rfl) rfl ?_
    refine ex_go (S := (2, [(0, .inl x), (1, .inl lo), (2, .inl hi)], [.inl lo, .inl x], t0, n, 0)) rfl (fun _ => rfl) rfl ?_
    refine gx_2nt (c := .lt) rfl (by first | decide | omega) (by first | decide | omega) (by first | decide | omega) rfl rfl ?_
    refine ex_go (S := (15, [(0, .inl x), (1, .inl lo), (2, .inl hi)], [.inl 0], t0, n, 0)) rfl (fun _ => rfl) rfl ?_
    refine ex_ret (r := (some (.inl 0), t0, n, 0)) rfl (fun _ => rfl) ?_
    exact ⟨_, rfl, 0, rfl, by omega, by omega⟩
  · refine ex_go (S := (1, [(0, .inl x), (1, .inl lo), (2, .inl hi)], [.inl x], t0, n, 0)) rfl (fun _ => rfl) rfl ?_
    refine ex_go (S := (2, [(0, .inl x), (1, .inl lo), (2, .inl hi)], [.inl lo, .inl x], t0, n, 0)) rfl (fun _ => rfl) rfl ?_
    by_cases hc1 : x < lo
    · refine gx_2t (c := .lt) rfl (by first | decide | omega) (by first | decide | omega) hc1 rfl ?_
      refine ex_go (S := (15, [(0, .inl x), (1, .inl lo), (2, .inl hi)], [.inl 0], t0, n, 0)) rfl (fun _ => rfl) rfl ?_
      refine ex_ret (r := (some (.inl 0), t0, n, 0)) rfl (fun _ => rfl) ?_
      exact ⟨_, rfl, 0, rfl, by omega, by omega⟩
    · refine gx_2f (c := .lt) rfl (by first | decide | omega) (by first | decide | omega) hc1 rfl ?_
      refine ex_go (S := (6, [(0, .inl x), (1, .inl lo), (2, .inl hi)], [.inl x], t0, n, 0)) rfl (fun _ => rfl) rfl ?_
      refine ex_go (S := (7, [(0, .inl x), (1, .inl lo), (2, .inl hi)], [.inl hi, .inl x], t0, n, 0)) rfl (fun _ => rfl) rfl ?_
      by_cases hc2 : hi < x
      · refine gx_2t (c := .gt) rfl (by first | decide | omega) (by first | decide | omega) hc2 rfl ?_
        refine ex_go (S := (15, [(0, .inl x), (1, .inl lo), (2, .inl hi)], [.inl 0], t0, n, 0)) rfl (fun _ => rfl) rfl ?_
        refine ex_ret (r := (some (.inl 0), t0, n, 0)) rfl (fun _ => rfl) ?_
        exact ⟨_, rfl, 0, rfl, by omega, by omega⟩
      · refine gx_2f (c := .gt) rfl (by first | decide | omega) (by first | decide | omega) hc2 rfl ?_
        refine ex_go (S := (11, [(0, .inl x), (1, .inl lo), (2, .inl hi)], [.inl 1], t0, n, 0)) rfl (fun _ => rfl) rfl ?_
        refine ex_go (S := (15, [(0, .inl x), (1, .inl lo), (2, .inl hi)], [.inl 1], t0, n, 0)) rfl (fun _ => rfl) rfl ?_
        refine ex_ret (r := (some (.inl 1), t0, n, 0)) rfl (fun _ => rfl) ?_
        exact ⟨_, rfl, 1, rfl, by omega, by omega⟩
theorem pz_withinz (d n : Nat) {t0 : en_H} {x K : Nat} (hx : x < 4294967296) (hK : K < 1000) : ∃ r, en_u (d + 1) 107 [.inl x, .inl 0, .inl (gz K)] t0 n = some r ∧ ∃ b, r = (some (.inl b), t0, n, 0) ∧ b ≤ 1 ∧ (b = 1 ↔ x < K) := by
  cases K with
  | zero =>
    refine en_u_ex rfl ?_
    show en_ex _ _ _ _ (0, [(0, .inl x), (1, .inl 0), (2, .inl 4294967295)], [], t0, n, 0) _
    by_cases hn : 2147483648 ≤ x
    · refine ex_go (S := (1, [(0, .inl x), (1, .inl 0), (2, .inl 4294967295)], [.inl x], t0, n, 0)) rfl (fun _ => rfl) rfl ?_
      refine ex_go (S := (2, [(0, .inl x), (1, .inl 0), (2, .inl 4294967295)], [.inl 0, .inl x], t0, n, 0)) rfl (fun _ => rfl) rfl ?_
      refine gx_2nt (c := .lt) rfl (by first | decide | omega) (by first | decide | omega) (by first | decide | omega) rfl rfl ?_
      refine ex_go (S := (15, [(0, .inl x), (1, .inl 0), (2, .inl 4294967295)], [.inl 0], t0, n, 0)) rfl (fun _ => rfl) rfl ?_
      refine ex_ret (r := (some (.inl 0), t0, n, 0)) rfl (fun _ => rfl) ?_
      exact ⟨_, rfl, 0, rfl, by omega, by omega⟩
    · refine ex_go (S := (1, [(0, .inl x), (1, .inl 0), (2, .inl 4294967295)], [.inl x], t0, n, 0)) rfl (fun _ => rfl) rfl ?_
      refine ex_go (S := (2, [(0, .inl x), (1, .inl 0), (2, .inl 4294967295)], [.inl 0, .inl x], t0, n, 0)) rfl (fun _ => rfl) rfl ?_
      refine gx_2f (c := .lt) rfl (by first | decide | omega) (by first | decide | omega) (show ¬ (x < 0) from by omega) rfl ?_
      refine ex_go (S := (6, [(0, .inl x), (1, .inl 0), (2, .inl 4294967295)], [.inl x], t0, n, 0)) rfl (fun _ => rfl) rfl ?_
      refine ex_go (S := (7, [(0, .inl x), (1, .inl 0), (2, .inl 4294967295)], [.inl 4294967295, .inl x], t0, n, 0)) rfl (fun _ => rfl) rfl ?_
      refine gx_2mt (c := .gt) rfl (by first | decide | omega) rfl rfl ?_
      refine ex_go (S := (15, [(0, .inl x), (1, .inl 0), (2, .inl 4294967295)], [.inl 0], t0, n, 0)) rfl (fun _ => rfl) rfl ?_
      refine ex_ret (r := (some (.inl 0), t0, n, 0)) rfl (fun _ => rfl) ?_
      exact ⟨_, rfl, 0, rfl, by omega, by omega⟩
  | succ K =>
    refine en_u_ex rfl ?_
    show en_ex _ _ _ _ (0, [(0, .inl x), (1, .inl 0), (2, .inl K)], [], t0, n, 0) _
    by_cases hn : 2147483648 ≤ x
    · refine ex_go (S := (1, [(0, .inl x), (1, .inl 0), (2, .inl K)], [.inl x], t0, n, 0)) rfl (fun _ => rfl) rfl ?_
      refine ex_go (S := (2, [(0, .inl x), (1, .inl 0), (2, .inl K)], [.inl 0, .inl x], t0, n, 0)) rfl (fun _ => rfl) rfl ?_
      refine gx_2nt (c := .lt) rfl (by first | decide | omega) (by first | decide | omega) (by first | decide | omega) rfl rfl ?_
      refine ex_go (S := (15, [(0, .inl x), (1, .inl 0), (2, .inl K)], [.inl 0], t0, n, 0)) rfl (fun _ => rfl) rfl ?_
      refine ex_ret (r := (some (.inl 0), t0, n, 0)) rfl (fun _ => rfl) ?_
      exact ⟨_, rfl, 0, rfl, by omega, by omega⟩
    · refine ex_go (S := (1, [(0, .inl x), (1, .inl 0), (2, .inl K)], [.inl x], t0, n, 0)) rfl (fun _ => rfl) rfl ?_
      refine ex_go (S := (2, [(0, .inl x), (1, .inl 0), (2, .inl K)], [.inl 0, .inl x], t0, n, 0)) rfl (fun _ => rfl) rfl ?_
      by_cases hc1 : x < 0
      · refine gx_2t (c := .lt) rfl (by first | decide | omega) (by first | decide | omega) hc1 rfl ?_
        refine ex_go (S := (15, [(0, .inl x), (1, .inl 0), (2, .inl K)], [.inl 0], t0, n, 0)) rfl (fun _ => rfl) rfl ?_
        refine ex_ret (r := (some (.inl 0), t0, n, 0)) rfl (fun _ => rfl) ?_
        exact ⟨_, rfl, 0, rfl, by omega, by omega⟩
      · refine gx_2f (c := .lt) rfl (by first | decide | omega) (by first | decide | omega) hc1 rfl ?_
        refine ex_go (S := (6, [(0, .inl x), (1, .inl 0), (2, .inl K)], [.inl x], t0, n, 0)) rfl (fun _ => rfl) rfl ?_
        refine ex_go (S := (7, [(0, .inl x), (1, .inl 0), (2, .inl K)], [.inl K, .inl x], t0, n, 0)) rfl (fun _ => rfl) rfl ?_
        by_cases hc2 : K < x
        · refine gx_2t (c := .gt) rfl (by first | decide | omega) (by first | decide | omega) hc2 rfl ?_
          refine ex_go (S := (15, [(0, .inl x), (1, .inl 0), (2, .inl K)], [.inl 0], t0, n, 0)) rfl (fun _ => rfl) rfl ?_
          refine ex_ret (r := (some (.inl 0), t0, n, 0)) rfl (fun _ => rfl) ?_
          exact ⟨_, rfl, 0, rfl, by omega, by omega⟩
        · refine gx_2f (c := .gt) rfl (by first | decide | omega) (by first | decide | omega) hc2 rfl ?_
          refine ex_go (S := (11, [(0, .inl x), (1, .inl 0), (2, .inl K)], [.inl 1], t0, n, 0)) rfl (fun _ => rfl) rfl ?_
          refine ex_go (S := (15, [(0, .inl x), (1, .inl 0), (2, .inl K)], [.inl 1], t0, n, 0)) rfl (fun _ => rfl) rfl ?_
          refine ex_ret (r := (some (.inl 1), t0, n, 0)) rfl (fun _ => rfl) ?_
          exact ⟨_, rfl, 1, rfl, by omega, by omega⟩
theorem pc_gapIndex (d n : Nat) {t0 : en_H} {g w e : Nat} (hb : g ≤ 5 ∧ w ≤ 3 ∧ e ≤ 40) : ∃ r, en_u (d + 1) 212 [.inl g, .inl w, .inl e] t0 n = some r ∧ r = (some (.inl (((g * 4) + w) * 41 + e)), t0, n, 0) := by
  refine en_u_ex rfl ?_
  show en_ex _ _ _ _ (0, [(0, .inl g), (1, .inl w), (2, .inl e)], [], t0, n, 0) _
  refine ex_go (S := (1, [(0, .inl g), (1, .inl w), (2, .inl e)], [.inl g], t0, n, 0)) rfl (fun _ => rfl) rfl ?_
  refine ex_go (S := (2, [(0, .inl g), (1, .inl w), (2, .inl e)], [.inl 4, .inl g], t0, n, 0)) rfl (fun _ => rfl) rfl ?_
  refine gx_imul rfl (by first | decide | omega) rfl ?_
  refine ex_go (S := (4, [(0, .inl g), (1, .inl w), (2, .inl e)], [.inl w, .inl (g * 4)], t0, n, 0)) rfl (fun _ => rfl) rfl ?_
  refine ex_iadd rfl (by first | decide | omega) rfl ?_
  refine ex_go (S := (7, [(0, .inl g), (1, .inl w), (2, .inl e)], [.inl 41, .inl ((g * 4) + w)], t0, n, 0)) rfl (fun _ => rfl) rfl ?_
  refine gx_imul rfl (by first | decide | omega) rfl ?_
  refine ex_go (S := (9, [(0, .inl g), (1, .inl w), (2, .inl e)], [.inl e, .inl (((g * 4) + w) * 41)], t0, n, 0)) rfl (fun _ => rfl) rfl ?_
  refine ex_iadd rfl (by first | decide | omega) rfl ?_
  refine ex_ret (r := (some (.inl ((((g * 4) + w) * 41) + e)), t0, n, 0)) rfl (fun _ => rfl) ?_
  exact ⟨_, rfl, rfl⟩
theorem pc_gapChance (d n : Nat) {t0 : en_H} {g w e v : Nat} (g0 : ai_HG ah_G t0) (hb : g ≤ 5 ∧ w ≤ 3 ∧ e ≤ 40) (k : ai_hv t0 145 (((g * 4) + w) * 41 + e) = some (.inl v)) : ∃ r, en_u (d + 2) 145 [gx_r 144, .inl g, .inl w, .inl e] t0 n = some r ∧ r = (some (.inl v), t0, n, 0) := by
  refine en_u_ex (d := d + 1) rfl ?_
  show en_ex _ _ _ _ (0, [(0, gx_r 144), (1, .inl g), (2, .inl w), (3, .inl e)], [], t0, n, 0) _
  refine ex_go (S := (1, [(0, gx_r 144), (1, .inl g), (2, .inl w), (3, .inl e)], [gx_r 144], t0, n, 0)) rfl (fun _ => rfl) rfl ?_
  refine gxo_ref (a := 144) (c := 145) rfl g0 rfl rfl rfl rfl rfl ?_
  refine ex_go (S := (5, [(0, gx_r 144), (1, .inl g), (2, .inl w), (3, .inl e)], [.inl g, gx_r 145], t0, n, 0)) rfl (fun _ => rfl) rfl ?_
  refine ex_go (S := (6, [(0, gx_r 144), (1, .inl g), (2, .inl w), (3, .inl e)], [.inl w, .inl g, gx_r 145], t0, n, 0)) rfl (fun _ => rfl) rfl ?_
  refine ex_go (S := (7, [(0, gx_r 144), (1, .inl g), (2, .inl w), (3, .inl e)], [.inl e, .inl w, .inl g, gx_r 145], t0, n, 0)) rfl (fun _ => rfl) rfl ?_
  obtain ⟨_, r1, rfl⟩ := pc_gapIndex (d) n (t0 := t0) (g := g) (w := w) (e := e) (by first | decide | omega)
  refine ex_stat rfl rfl rfl rfl rfl r1 (Nat.le_refl _) rfl ?_
  show en_ex _ _ _ _ (10, [(0, gx_r 144), (1, .inl g), (2, .inl w), (3, .inl e)], [.inl (((g * 4) + w) * 41 + e), gx_r 145], t0, n, 0) _
  refine gx_ag (v := .inl v) (cb := fun c => Nat.beq c 0) rfl (fun _ => rfl) g0 rfl rfl k (by first | decide | omega) rfl ?_
  refine ex_ret (r := (some (.inl v), t0, n, 0)) rfl (fun _ => rfl) ?_
  exact ⟨_, rfl, rfl⟩
theorem pz_holds212 (d n : Nat) {t0 : en_H} {x K : Nat} (g0 : ai_HG ah_G t0) (hx : x < 4294967296) (kK : ai_hv t0 212 5 = some (.inl K)) (hK : K ≤ 1000) : ∃ r, en_u (d + 1) 23 [gx_r 212, .inl x] t0 n = some r ∧ ∃ b, r = (some (.inl b), t0, n, 0) ∧ b ≤ 1 ∧ (b = 1 ↔ x < K) := by
  refine en_u_ex rfl ?_
  show en_ex _ _ _ _ (0, [(0, gx_r 212), (1, .inl x)], [], t0, n, 0) _
  by_cases hn : 2147483648 ≤ x
  · refine ex_go (S := (1, [(0, gx_r 212), (1, .inl x)], [.inl x], t0, n, 0)) rfl (fun _ => rfl) rfl ?_
    refine gx_negt (c := .lt) rfl (by first | decide | omega) (by first | decide | omega) rfl rfl ?_
    refine ex_go (S := (17, [(0, gx_r 212), (1, .inl x)], [.inl 0], t0, n, 0)) rfl (fun _ => rfl) rfl ?_
    refine ex_ret (r := (some (.inl 0), t0, n, 0)) rfl (fun _ => rfl) ?_
    exact ⟨_, rfl, 0, rfl, by omega, by omega⟩
  · refine ex_go (S := (1, [(0, gx_r 212), (1, .inl x)], [.inl x], t0, n, 0)) rfl (fun _ => rfl) rfl ?_
    by_cases hc1 : x < 0
    · refine gx_1t (c := .lt) rfl (by first | decide | omega) hc1 rfl ?_
      refine ex_go (S := (17, [(0, gx_r 212), (1, .inl x)], [.inl 0], t0, n, 0)) rfl (fun _ => rfl) rfl ?_
      refine ex_ret (r := (some (.inl 0), t0, n, 0)) rfl (fun _ => rfl) ?_
      exact ⟨_, rfl, 0, rfl, by omega, by omega⟩
    · refine gx_1f (c := .lt) rfl (by first | decide | omega) hc1 rfl ?_
      refine ex_go (S := (5, [(0, gx_r 212), (1, .inl x)], [.inl x], t0, n, 0)) rfl (fun _ => rfl) rfl ?_
      refine ex_go (S := (6, [(0, gx_r 212), (1, .inl x)], [gx_r 212, .inl x], t0, n, 0)) rfl (fun _ => rfl) rfl ?_
      refine gxo_get (a := 212) rfl g0 rfl rfl kK rfl ?_
      by_cases hc2 : K ≤ x
      · refine gx_2t (c := .ge) rfl (by first | decide | omega) (by first | decide | omega) hc2 rfl ?_
        refine ex_go (S := (17, [(0, gx_r 212), (1, .inl x)], [.inl 0], t0, n, 0)) rfl (fun _ => rfl) rfl ?_
        refine ex_ret (r := (some (.inl 0), t0, n, 0)) rfl (fun _ => rfl) ?_
        exact ⟨_, rfl, 0, rfl, by omega, by omega⟩
      · refine gx_2f (c := .ge) rfl (by first | decide | omega) (by first | decide | omega) hc2 rfl ?_
        refine ex_go (S := (13, [(0, gx_r 212), (1, .inl x)], [.inl 1], t0, n, 0)) rfl (fun _ => rfl) rfl ?_
        refine ex_go (S := (17, [(0, gx_r 212), (1, .inl x)], [.inl 1], t0, n, 0)) rfl (fun _ => rfl) rfl ?_
        refine ex_ret (r := (some (.inl 1), t0, n, 0)) rfl (fun _ => rfl) ?_
        exact ⟨_, rfl, 1, rfl, by omega, by omega⟩
theorem pc_going212 (d n : Nat) {t0 : en_H} {g w e q X : Nat} (g0 : ai_HG ah_G t0) (hb : g ≤ 4 ∧ w ≤ 2 ∧ e ≤ 40) (k1 : ai_hv t0 215 g = some (.inl q)) (hq : q ≤ 10) (k2 : ai_hv t0 145 ((((g + 1) * 4) + 3) * 41 + e) = some (.inl X)) (hX : X ≤ 1000000) : ∃ r, en_u (d + 3) 148 [gx_r 144, gx_r 212, .inl g, .inl w, .inl e] t0 n = some r ∧ r = (some (.inl (gG q w X)), t0, n, 0) := by
  refine en_u_ex (d := d + 2) rfl ?_
  show en_ex _ _ _ _ (0, [(0, gx_r 144), (1, gx_r 212), (2, .inl g), (3, .inl w), (4, .inl e)], [], t0, n, 0) _
  refine ex_go (S := (1, [(0, gx_r 144), (1, gx_r 212), (2, .inl g), (3, .inl w), (4, .inl e)], [.inl 0], t0, n, 0)) rfl (fun _ => rfl) rfl ?_
  refine ex_go (S := (2, [(0, gx_r 144), (1, gx_r 212), (2, .inl g), (3, .inl w), (4, .inl e)], [gx_r 212, .inl 0], t0, n, 0)) rfl (fun _ => rfl) rfl ?_
  refine gxo_ref (a := 212) (c := 215) rfl g0 rfl rfl rfl rfl rfl ?_
  refine ex_go (S := (6, [(0, gx_r 144), (1, gx_r 212), (2, .inl g), (3, .inl w), (4, .inl e)], [.inl g, gx_r 215, .inl 0], t0, n, 0)) rfl (fun _ => rfl) rfl ?_
  refine gx_ag (v := .inl q) (cb := fun c => Nat.beq c 0) rfl (fun _ => rfl) g0 rfl rfl k1 (by first | decide | omega) rfl ?_
  refine ex_go (S := (8, [(0, gx_r 144), (1, gx_r 212), (2, .inl g), (3, .inl w), (4, .inl e)], [.inl 2, .inl q, .inl 0], t0, n, 0)) rfl (fun _ => rfl) rfl ?_
  refine ex_go (S := (9, [(0, gx_r 144), (1, gx_r 212), (2, .inl g), (3, .inl w), (4, .inl e)], [.inl w, .inl 2, .inl q, .inl 0], t0, n, 0)) rfl (fun _ => rfl) rfl ?_
  refine gx_imul rfl (by first | decide | omega) rfl ?_
  rcases Nat.lt_or_ge q (2 * w) with hlt | hge
  · refine gx_isubn rfl (by first | decide | omega) (by first | decide | omega) rfl (fun z1 z1a z1b z1c => ?_)
    refine gx_imm (m := 0) rfl rfl (zk_maxn (by first | decide | omega) (by first | decide | omega)) rfl rfl ?_
    refine ex_go (S := (16, [(5, .inl 0), (0, gx_r 144), (1, gx_r 212), (2, .inl g), (3, .inl w), (4, .inl e)], [], t0, n, 0)) rfl (fun _ => rfl) rfl ?_
    refine ex_go (S := (18, [(5, .inl 0), (0, gx_r 144), (1, gx_r 212), (2, .inl g), (3, .inl w), (4, .inl e)], [.inl 10], t0, n, 0)) rfl (fun _ => rfl) rfl ?_
    refine ex_go (S := (20, [(5, .inl 0), (0, gx_r 144), (1, gx_r 212), (2, .inl g), (3, .inl w), (4, .inl e)], [.inl 0, .inl 10], t0, n, 0)) rfl (fun _ => rfl) rfl ?_
    refine ex_go (S := (21, [(5, .inl 0), (0, gx_r 144), (1, gx_r 212), (2, .inl g), (3, .inl w), (4, .inl e)], [.inl 10], t0, n, 0)) rfl (fun _ => rfl) rfl ?_
    refine ex_go (S := (22, [(5, .inl 0), (0, gx_r 144), (1, gx_r 212), (2, .inl g), (3, .inl w), (4, .inl e)], [gx_r 144, .inl 10], t0, n, 0)) rfl (fun _ => rfl) rfl ?_
    refine ex_go (S := (23, [(5, .inl 0), (0, gx_r 144), (1, gx_r 212), (2, .inl g), (3, .inl w), (4, .inl e)], [.inl g, gx_r 144, .inl 10], t0, n, 0)) rfl (fun _ => rfl) rfl ?_
    refine ex_go (S := (24, [(5, .inl 0), (0, gx_r 144), (1, gx_r 212), (2, .inl g), (3, .inl w), (4, .inl e)], [.inl 1, .inl g, gx_r 144, .inl 10], t0, n, 0)) rfl (fun _ => rfl) rfl ?_
    refine ex_iadd rfl (by first | decide | omega) rfl ?_
    refine ex_go (S := (26, [(5, .inl 0), (0, gx_r 144), (1, gx_r 212), (2, .inl g), (3, .inl w), (4, .inl e)], [.inl 3, .inl (g + 1), gx_r 144, .inl 10], t0, n, 0)) rfl (fun _ => rfl) rfl ?_
    refine ex_go (S := (28, [(5, .inl 0), (0, gx_r 144), (1, gx_r 212), (2, .inl g), (3, .inl w), (4, .inl e)], [.inl e, .inl 3, .inl (g + 1), gx_r 144, .inl 10], t0, n, 0)) rfl (fun _ => rfl) rfl ?_
    obtain ⟨_, r2, rfl⟩ := pc_gapChance (d) n (g := g + 1) (w := 3) (e := e) (v := X) g0 (by first | decide | omega) (k2)
    refine gx_callo (a := 144) rfl rfl g0 rfl rfl rfl r2 rfl ?_
    show en_ex _ _ _ _ (31, [(5, .inl 0), (0, gx_r 144), (1, gx_r 212), (2, .inl g), (3, .inl w), (4, .inl e)], [.inl X, .inl 10], t0, n, 0) _
    have hm : (10 - (q - (2 * w))) * X ≤ 10 * 1000000 := Nat.mul_le_mul (by first | decide | omega) hX
    refine gx_imul rfl (by first | decide | omega) rfl ?_
    refine ex_go (S := (34, [(5, .inl 0), (0, gx_r 144), (1, gx_r 212), (2, .inl g), (3, .inl w), (4, .inl e)], [.inl 10, .inl (10 * X)], t0, n, 0)) rfl (fun _ => rfl) rfl ?_
    refine gx_idivn rfl (by first | decide | omega) (by first | decide | omega) (by first | decide | omega) rfl ?_
    refine ex_ret (r := (some (.inl ((10 * X) / 10)), t0, n, 0)) rfl (fun _ => rfl) ?_
    refine ⟨_, rfl, ?_⟩
    unfold gG
    have h9 : q - 2 * w = 0 := by omega
    rw [h9, Nat.sub_zero]
  · refine gx_isub rfl (by first | decide | omega) (by first | decide | omega) rfl ?_
    refine gx_imm (m := q - (2 * w)) rfl rfl ((zk_max (by first | decide | omega) (by first | decide | omega)).trans (by rw [Nat.zero_max])) rfl rfl ?_
    refine ex_go (S := (16, [(5, .inl (q - (2 * w))), (0, gx_r 144), (1, gx_r 212), (2, .inl g), (3, .inl w), (4, .inl e)], [], t0, n, 0)) rfl (fun _ => rfl) rfl ?_
    refine ex_go (S := (18, [(5, .inl (q - (2 * w))), (0, gx_r 144), (1, gx_r 212), (2, .inl g), (3, .inl w), (4, .inl e)], [.inl 10], t0, n, 0)) rfl (fun _ => rfl) rfl ?_
    refine ex_go (S := (20, [(5, .inl (q - (2 * w))), (0, gx_r 144), (1, gx_r 212), (2, .inl g), (3, .inl w), (4, .inl e)], [.inl (q - (2 * w)), .inl 10], t0, n, 0)) rfl (fun _ => rfl) rfl ?_
    refine gx_isub rfl (by first | decide | omega) (by first | decide | omega) rfl ?_
    refine ex_go (S := (22, [(5, .inl (q - (2 * w))), (0, gx_r 144), (1, gx_r 212), (2, .inl g), (3, .inl w), (4, .inl e)], [gx_r 144, .inl (10 - (q - (2 * w)))], t0, n, 0)) rfl (fun _ => rfl) rfl ?_
    refine ex_go (S := (23, [(5, .inl (q - (2 * w))), (0, gx_r 144), (1, gx_r 212), (2, .inl g), (3, .inl w), (4, .inl e)], [.inl g, gx_r 144, .inl (10 - (q - (2 * w)))], t0, n, 0)) rfl (fun _ => rfl) rfl ?_
    refine ex_go (S := (24, [(5, .inl (q - (2 * w))), (0, gx_r 144), (1, gx_r 212), (2, .inl g), (3, .inl w), (4, .inl e)], [.inl 1, .inl g, gx_r 144, .inl (10 - (q - (2 * w)))], t0, n, 0)) rfl (fun _ => rfl) rfl ?_
    refine ex_iadd rfl (by first | decide | omega) rfl ?_
    refine ex_go (S := (26, [(5, .inl (q - (2 * w))), (0, gx_r 144), (1, gx_r 212), (2, .inl g), (3, .inl w), (4, .inl e)], [.inl 3, .inl (g + 1), gx_r 144, .inl (10 - (q - (2 * w)))], t0, n, 0)) rfl (fun _ => rfl) rfl ?_
    refine ex_go (S := (28, [(5, .inl (q - (2 * w))), (0, gx_r 144), (1, gx_r 212), (2, .inl g), (3, .inl w), (4, .inl e)], [.inl e, .inl 3, .inl (g + 1), gx_r 144, .inl (10 - (q - (2 * w)))], t0, n, 0)) rfl (fun _ => rfl) rfl ?_
    obtain ⟨_, r3, rfl⟩ := pc_gapChance (d) n (g := g + 1) (w := 3) (e := e) (v := X) g0 (by first | decide | omega) (k2)
    refine gx_callo (a := 144) rfl rfl g0 rfl rfl rfl r3 rfl ?_
    show en_ex _ _ _ _ (31, [(5, .inl (q - (2 * w))), (0, gx_r 144), (1, gx_r 212), (2, .inl g), (3, .inl w), (4, .inl e)], [.inl X, .inl (10 - (q - (2 * w)))], t0, n, 0) _
    have hm : (10 - (q - (2 * w))) * X ≤ 10 * 1000000 := Nat.mul_le_mul (by first | decide | omega) hX
    refine gx_imul rfl (by first | decide | omega) rfl ?_
    refine ex_go (S := (34, [(5, .inl (q - (2 * w))), (0, gx_r 144), (1, gx_r 212), (2, .inl g), (3, .inl w), (4, .inl e)], [.inl 10, .inl ((10 - (q - (2 * w))) * X)], t0, n, 0)) rfl (fun _ => rfl) rfl ?_
    refine gx_idivn rfl (by first | decide | omega) (by first | decide | omega) (by first | decide | omega) rfl ?_
    refine ex_ret (r := (some (.inl (((10 - (q - (2 * w))) * X) / 10)), t0, n, 0)) rfl (fun _ => rfl) ?_
    exact ⟨_, rfl, rfl⟩
theorem pc_open212 (d n : Nat) {t0 : en_H} {g w e q X Y : Nat} (g0 : ai_HG ah_G t0) (hb : g ≤ 4 ∧ w ≤ 2 ∧ e ≤ 40) (k1 : ai_hv t0 215 g = some (.inl q)) (hq : q ≤ 10) (k2 : ai_hv t0 145 ((((g + 1) * 4) + 3) * 41 + e) = some (.inl X)) (hX : X ≤ 1000000) (k3 : ai_hv t0 145 (((g * 4) + w) * 41 + e) = some (.inl Y)) (hY : Y ≤ 1000000) : ∃ r, en_u (d + 4) 256 [gx_r 144, gx_r 212, .inl g, .inl w, .inl e] t0 n = some r ∧ r = (some (.inl (gO q w X Y)), t0, n, 0) := by
  refine en_u_ex (d := d + 3) rfl ?_
  show en_ex _ _ _ _ (0, [(0, gx_r 144), (1, gx_r 212), (2, .inl g), (3, .inl w), (4, .inl e)], [], t0, n, 0) _
  have hgl := gG_le (q := q) (w := w) hX
  refine ex_go (S := (1, [(0, gx_r 144), (1, gx_r 212), (2, .inl g), (3, .inl w), (4, .inl e)], [gx_r 144], t0, n, 0)) rfl (fun _ => rfl) rfl ?_
  refine ex_go (S := (2, [(0, gx_r 144), (1, gx_r 212), (2, .inl g), (3, .inl w), (4, .inl e)], [gx_r 212, gx_r 144], t0, n, 0)) rfl (fun _ => rfl) rfl ?_
  refine ex_go (S := (3, [(0, gx_r 144), (1, gx_r 212), (2, .inl g), (3, .inl w), (4, .inl e)], [.inl g, gx_r 212, gx_r 144], t0, n, 0)) rfl (fun _ => rfl) rfl ?_
  refine ex_go (S := (4, [(0, gx_r 144), (1, gx_r 212), (2, .inl g), (3, .inl w), (4, .inl e)], [.inl w, .inl g, gx_r 212, gx_r 144], t0, n, 0)) rfl (fun _ => rfl) rfl ?_
  refine ex_go (S := (6, [(0, gx_r 144), (1, gx_r 212), (2, .inl g), (3, .inl w), (4, .inl e)], [.inl e, .inl w, .inl g, gx_r 212, gx_r 144], t0, n, 0)) rfl (fun _ => rfl) rfl ?_
  obtain ⟨_, r1, rfl⟩ := pc_going212 d n g0 hb k1 hq k2 hX
  refine gx_callo (a := 144) rfl rfl g0 rfl rfl rfl r1 rfl ?_
  show en_ex _ _ _ _ (9, [(0, gx_r 144), (1, gx_r 212), (2, .inl g), (3, .inl w), (4, .inl e)], [.inl (gG q w X)], t0, n, 0) _
  refine ex_go (S := (10, [(0, gx_r 144), (1, gx_r 212), (2, .inl g), (3, .inl w), (4, .inl e)], [gx_r 144, .inl (gG q w X)], t0, n, 0)) rfl (fun _ => rfl) rfl ?_
  refine ex_go (S := (11, [(0, gx_r 144), (1, gx_r 212), (2, .inl g), (3, .inl w), (4, .inl e)], [.inl g, gx_r 144, .inl (gG q w X)], t0, n, 0)) rfl (fun _ => rfl) rfl ?_
  refine ex_go (S := (12, [(0, gx_r 144), (1, gx_r 212), (2, .inl g), (3, .inl w), (4, .inl e)], [.inl w, .inl g, gx_r 144, .inl (gG q w X)], t0, n, 0)) rfl (fun _ => rfl) rfl ?_
  refine ex_go (S := (14, [(0, gx_r 144), (1, gx_r 212), (2, .inl g), (3, .inl w), (4, .inl e)], [.inl e, .inl w, .inl g, gx_r 144, .inl (gG q w X)], t0, n, 0)) rfl (fun _ => rfl) rfl ?_
  obtain ⟨_, r2, rfl⟩ := pc_gapChance (d + 1) n (g := g) (w := w) (e := e) (v := Y) g0 (by first | decide | omega) (k3)
  refine gx_callo (a := 144) rfl rfl g0 rfl rfl rfl r2 rfl ?_
  show en_ex _ _ _ _ (17, [(0, gx_r 144), (1, gx_r 212), (2, .inl g), (3, .inl w), (4, .inl e)], [.inl Y, .inl (gG q w X)], t0, n, 0) _
  refine gx_imm rfl rfl (zk_max (by first | decide | omega) (by first | decide | omega)) rfl rfl ?_
  refine ex_ret (r := (some (.inl (max (gG q w X) Y)), t0, n, 0)) rfl (fun _ => rfl) ?_
  exact ⟨_, rfl, rfl⟩
theorem pc_day212 (d n : Nat) {t0 : en_H} {g e o q X : Nat} {P : Nat → Nat} (g0 : ai_HG ah_G t0) (hb : g ≤ 4 ∧ e + 1 ≤ 40) (kO : ai_hv t0 214 g = some (.inl o)) (ho : o ≤ 10) (k1 : ai_hv t0 215 g = some (.inl q)) (hq : q ≤ 10) (k2 : ai_hv t0 145 ((((g + 1) * 4) + 3) * 41 + e) = some (.inl X)) (hX : X ≤ 1000000) (kP : ∀ w, w ≤ 3 → ai_hv t0 145 (((g * 4) + w) * 41 + e) = some (.inl (P w))) (hP : ∀ w, w ≤ 3 → P w ≤ 1000000) : ∃ r, en_u (d + 5) 213 [gx_r 144, gx_r 212, .inl g, .inl (e + 1)] t0 n = some r ∧ ∃ t', r = (none, t', n, 0) ∧ ai_HG ah_G t' ∧ (∀ c i, ¬ (c = 145 ∧ (i = ((g * 4) + 0) * 41 + (e + 1) ∨ i = ((g * 4) + 1) * 41 + (e + 1) ∨ i = ((g * 4) + 2) * 41 + (e + 1) ∨ i = ((g * 4) + 3) * 41 + (e + 1))) → ai_hv t' c i = ai_hv t0 c i) ∧ ∀ w, w ≤ 3 → ai_hv t' 145 (((g * 4) + w) * 41 + (e + 1)) = some (.inl (gs o q X P w)) := by
  refine en_u_ex (d := d + 4) rfl ?_
  show en_ex _ _ _ _ (0, [(0, gx_r 144), (1, gx_r 212), (2, .inl g), (3, .inl (e + 1))], [], t0, n, 0) _
  have hp3 := hP 3 (by first | decide | omega)
  have ho0 := gO_le (q := q) (w := 0) hX (hP 0 (by first | decide | omega))
  have ho1 := gO_le (q := q) (w := 1) hX (hP 1 (by first | decide | omega))
  have ho2 := gO_le (q := q) (w := 2) hX (hP 2 (by first | decide | omega))
  have hm1 := Nat.mul_le_mul ho ho0
  have hm2 := Nat.mul_le_mul (show 10 - o ≤ 10 by omega) hp3
  refine ex_go (S := (1, [(0, gx_r 144), (1, gx_r 212), (2, .inl g), (3, .inl (e + 1))], [.inl (e + 1)], t0, n, 0)) rfl (fun _ => rfl) rfl ?_
  refine ex_go (S := (2, [(0, gx_r 144), (1, gx_r 212), (2, .inl g), (3, .inl (e + 1))], [.inl 1, .inl (e + 1)], t0, n, 0)) rfl (fun _ => rfl) rfl ?_
  refine gx_isub rfl (by first | decide | omega) (by first | decide | omega) rfl ?_
  show en_ex _ _ _ _ (3, [(0, gx_r 144), (1, gx_r 212), (2, .inl g), (3, .inl (e + 1))], [.inl e], t0, n, 0) _
  refine ex_go (S := (5, [(4, .inl e), (0, gx_r 144), (1, gx_r 212), (2, .inl g), (3, .inl (e + 1))], [], t0, n, 0)) rfl (fun _ => rfl) rfl ?_
  refine ex_go (S := (6, [(4, .inl e), (0, gx_r 144), (1, gx_r 212), (2, .inl g), (3, .inl (e + 1))], [gx_r 144], t0, n, 0)) rfl (fun _ => rfl) rfl ?_
  refine ex_go (S := (7, [(4, .inl e), (0, gx_r 144), (1, gx_r 212), (2, .inl g), (3, .inl (e + 1))], [.inl g, gx_r 144], t0, n, 0)) rfl (fun _ => rfl) rfl ?_
  refine ex_go (S := (8, [(4, .inl e), (0, gx_r 144), (1, gx_r 212), (2, .inl g), (3, .inl (e + 1))], [.inl 3, .inl g, gx_r 144], t0, n, 0)) rfl (fun _ => rfl) rfl ?_
  refine ex_go (S := (10, [(4, .inl e), (0, gx_r 144), (1, gx_r 212), (2, .inl g), (3, .inl (e + 1))], [.inl e, .inl 3, .inl g, gx_r 144], t0, n, 0)) rfl (fun _ => rfl) rfl ?_
  obtain ⟨_, r1, rfl⟩ := pc_gapChance (d + 2) n (g := g) (w := 3) (e := e) (v := P 3) g0 (by first | decide | omega) (kP 3 (by first | decide | omega))
  refine gx_callo (a := 144) rfl rfl g0 rfl rfl rfl r1 rfl ?_
  show en_ex _ _ _ _ (13, [(4, .inl e), (0, gx_r 144), (1, gx_r 212), (2, .inl g), (3, .inl (e + 1))], [.inl (P 3)], t0, n, 0) _
  refine ex_go (S := (15, [(5, .inl (P 3)), (4, .inl e), (0, gx_r 144), (1, gx_r 212), (2, .inl g), (3, .inl (e + 1))], [], t0, n, 0)) rfl (fun _ => rfl) rfl ?_
  refine ex_go (S := (16, [(5, .inl (P 3)), (4, .inl e), (0, gx_r 144), (1, gx_r 212), (2, .inl g), (3, .inl (e + 1))], [gx_r 212], t0, n, 0)) rfl (fun _ => rfl) rfl ?_
  refine gxo_ref (a := 212) (c := 214) rfl g0 rfl rfl rfl rfl rfl ?_
  refine ex_go (S := (20, [(5, .inl (P 3)), (4, .inl e), (0, gx_r 144), (1, gx_r 212), (2, .inl g), (3, .inl (e + 1))], [.inl g, gx_r 214], t0, n, 0)) rfl (fun _ => rfl) rfl ?_
  refine gx_ag (v := .inl o) (cb := fun c => Nat.beq c 0) rfl (fun _ => rfl) g0 rfl rfl kO (by first | decide | omega) rfl ?_
  refine ex_go (S := (23, [(6, .inl o), (5, .inl (P 3)), (4, .inl e), (0, gx_r 144), (1, gx_r 212), (2, .inl g), (3, .inl (e + 1))], [], t0, n, 0)) rfl (fun _ => rfl) rfl ?_
  refine ex_go (S := (24, [(6, .inl o), (5, .inl (P 3)), (4, .inl e), (0, gx_r 144), (1, gx_r 212), (2, .inl g), (3, .inl (e + 1))], [gx_r 144], t0, n, 0)) rfl (fun _ => rfl) rfl ?_
  refine gxo_ref (a := 144) (c := 145) rfl g0 rfl rfl rfl rfl rfl ?_
  refine ex_go (S := (28, [(6, .inl o), (5, .inl (P 3)), (4, .inl e), (0, gx_r 144), (1, gx_r 212), (2, .inl g), (3, .inl (e + 1))], [.inl g, gx_r 145], t0, n, 0)) rfl (fun _ => rfl) rfl ?_
  refine ex_go (S := (29, [(6, .inl o), (5, .inl (P 3)), (4, .inl e), (0, gx_r 144), (1, gx_r 212), (2, .inl g), (3, .inl (e + 1))], [.inl 3, .inl g, gx_r 145], t0, n, 0)) rfl (fun _ => rfl) rfl ?_
  refine ex_go (S := (30, [(6, .inl o), (5, .inl (P 3)), (4, .inl e), (0, gx_r 144), (1, gx_r 212), (2, .inl g), (3, .inl (e + 1))], [.inl (e + 1), .inl 3, .inl g, gx_r 145], t0, n, 0)) rfl (fun _ => rfl) rfl ?_
  obtain ⟨_, r2, rfl⟩ := pc_gapIndex (d + 3) n (t0 := t0) (g := g) (w := 3) (e := e + 1) (by first | decide | omega)
  refine ex_stat rfl rfl rfl rfl rfl r2 (Nat.le_refl _) rfl ?_
  show en_ex _ _ _ _ (33, [(6, .inl o), (5, .inl (P 3)), (4, .inl e), (0, gx_r 144), (1, gx_r 212), (2, .inl g), (3, .inl (e + 1))], [.inl (((g * 4) + 3) * 41 + (e + 1)), gx_r 145], t0, n, 0) _
  refine ex_go (S := (35, [(6, .inl o), (5, .inl (P 3)), (4, .inl e), (0, gx_r 144), (1, gx_r 212), (2, .inl g), (3, .inl (e + 1))], [.inl o, .inl (((g * 4) + 3) * 41 + (e + 1)), gx_r 145], t0, n, 0)) rfl (fun _ => rfl) rfl ?_
  refine ex_go (S := (36, [(6, .inl o), (5, .inl (P 3)), (4, .inl e), (0, gx_r 144), (1, gx_r 212), (2, .inl g), (3, .inl (e + 1))], [gx_r 144, .inl o, .inl (((g * 4) + 3) * 41 + (e + 1)), gx_r 145], t0, n, 0)) rfl (fun _ => rfl) rfl ?_
  refine ex_go (S := (37, [(6, .inl o), (5, .inl (P 3)), (4, .inl e), (0, gx_r 144), (1, gx_r 212), (2, .inl g), (3, .inl (e + 1))], [gx_r 212, gx_r 144, .inl o, .inl (((g * 4) + 3) * 41 + (e + 1)), gx_r 145], t0, n, 0)) rfl (fun _ => rfl) rfl ?_
  refine ex_go (S := (38, [(6, .inl o), (5, .inl (P 3)), (4, .inl e), (0, gx_r 144), (1, gx_r 212), (2, .inl g), (3, .inl (e + 1))], [.inl g, gx_r 212, gx_r 144, .inl o, .inl (((g * 4) + 3) * 41 + (e + 1)), gx_r 145], t0, n, 0)) rfl (fun _ => rfl) rfl ?_
  refine ex_go (S := (39, [(6, .inl o), (5, .inl (P 3)), (4, .inl e), (0, gx_r 144), (1, gx_r 212), (2, .inl g), (3, .inl (e + 1))], [.inl 0, .inl g, gx_r 212, gx_r 144, .inl o, .inl (((g * 4) + 3) * 41 + (e + 1)), gx_r 145], t0, n, 0)) rfl (fun _ => rfl) rfl ?_
  refine ex_go (S := (41, [(6, .inl o), (5, .inl (P 3)), (4, .inl e), (0, gx_r 144), (1, gx_r 212), (2, .inl g), (3, .inl (e + 1))], [.inl e, .inl 0, .inl g, gx_r 212, gx_r 144, .inl o, .inl (((g * 4) + 3) * 41 + (e + 1)), gx_r 145], t0, n, 0)) rfl (fun _ => rfl) rfl ?_
  obtain ⟨_, r3, rfl⟩ := pc_open212 d n (w := 0) g0 (by first | decide | omega) (k1) hq (k2) hX (kP 0 (by first | decide | omega)) (hP 0 (by first | decide | omega))
  refine gx_callo (a := 144) rfl rfl g0 rfl rfl rfl r3 rfl ?_
  show en_ex _ _ _ _ (44, [(6, .inl o), (5, .inl (P 3)), (4, .inl e), (0, gx_r 144), (1, gx_r 212), (2, .inl g), (3, .inl (e + 1))], [.inl (gO q 0 X (P 0)), .inl o, .inl (((g * 4) + 3) * 41 + (e + 1)), gx_r 145], t0, n, 0) _
  refine gx_imul rfl (by first | decide | omega) rfl ?_
  refine ex_go (S := (47, [(6, .inl o), (5, .inl (P 3)), (4, .inl e), (0, gx_r 144), (1, gx_r 212), (2, .inl g), (3, .inl (e + 1))], [.inl 10, .inl (o * (gO q 0 X (P 0))), .inl (((g * 4) + 3) * 41 + (e + 1)), gx_r 145], t0, n, 0)) rfl (fun _ => rfl) rfl ?_
  refine ex_go (S := (49, [(6, .inl o), (5, .inl (P 3)), (4, .inl e), (0, gx_r 144), (1, gx_r 212), (2, .inl g), (3, .inl (e + 1))], [.inl o, .inl 10, .inl (o * (gO q 0 X (P 0))), .inl (((g * 4) + 3) * 41 + (e + 1)), gx_r 145], t0, n, 0)) rfl (fun _ => rfl) rfl ?_
  refine gx_isub rfl (by first | decide | omega) (by first | decide | omega) rfl ?_
  refine ex_go (S := (52, [(6, .inl o), (5, .inl (P 3)), (4, .inl e), (0, gx_r 144), (1, gx_r 212), (2, .inl g), (3, .inl (e + 1))], [.inl (P 3), .inl (10 - o), .inl (o * (gO q 0 X (P 0))), .inl (((g * 4) + 3) * 41 + (e + 1)), gx_r 145], t0, n, 0)) rfl (fun _ => rfl) rfl ?_
  refine gx_imul rfl (by first | decide | omega) rfl ?_
  refine ex_iadd rfl (by first | decide | omega) rfl ?_
  refine ex_go (S := (56, [(6, .inl o), (5, .inl (P 3)), (4, .inl e), (0, gx_r 144), (1, gx_r 212), (2, .inl g), (3, .inl (e + 1))], [.inl 10, .inl ((o * (gO q 0 X (P 0))) + ((10 - o) * (P 3))), .inl (((g * 4) + 3) * 41 + (e + 1)), gx_r 145], t0, n, 0)) rfl (fun _ => rfl) rfl ?_
  refine gx_idivn rfl (by first | decide | omega) (by first | decide | omega) (by first | decide | omega) rfl ?_
  refine gx_ap rfl (fun _ => rfl) g0 rfl rfl rfl (show ((g * 4) + 3) * 41 + (e + 1) < 984 from by omega) (gx_run1 (show ((g * 4) + 3) * 41 + (e + 1) < 984 from by omega)) (gx_full (by first | decide | omega)) rfl (fun t104 g104 k104 e104 => ?_)
  have k5 : ai_hv t104 214 g = some (.inl o) := (e104 214 g (by first | decide | omega)).trans kO
  refine ex_go (S := (59, [(6, .inl o), (5, .inl (P 3)), (4, .inl e), (0, gx_r 144), (1, gx_r 212), (2, .inl g), (3, .inl (e + 1))], [.inl 0], t104, n, 0)) rfl (fun _ => rfl) rfl ?_
  refine ex_go (S := (61, [(7, .inl 0), (6, .inl o), (5, .inl (P 3)), (4, .inl e), (0, gx_r 144), (1, gx_r 212), (2, .inl g), (3, .inl (e + 1))], [], t104, n, 0)) rfl (fun _ => rfl) rfl ?_
  refine ex_go (S := (63, [(7, .inl 0), (6, .inl o), (5, .inl (P 3)), (4, .inl e), (0, gx_r 144), (1, gx_r 212), (2, .inl g), (3, .inl (e + 1))], [.inl 0], t104, n, 0)) rfl (fun _ => rfl) rfl ?_
  refine ex_go (S := (64, [(7, .inl 0), (6, .inl o), (5, .inl (P 3)), (4, .inl e), (0, gx_r 144), (1, gx_r 212), (2, .inl g), (3, .inl (e + 1))], [.inl 2, .inl 0], t104, n, 0)) rfl (fun _ => rfl) rfl ?_
  refine ex_go (S := (67, [(7, .inl 0), (6, .inl o), (5, .inl (P 3)), (4, .inl e), (0, gx_r 144), (1, gx_r 212), (2, .inl g), (3, .inl (e + 1))], [], t104, n, 0)) rfl (fun _ => rfl) rfl ?_
  refine ex_go (S := (69, [(7, .inl 0), (6, .inl o), (5, .inl (P 3)), (4, .inl e), (0, gx_r 144), (1, gx_r 212), (2, .inl g), (3, .inl (e + 1))], [.inl 0], t104, n, 0)) rfl (fun _ => rfl) rfl ?_
  refine ex_go (S := (70, [(7, .inl 0), (6, .inl o), (5, .inl (P 3)), (4, .inl e), (0, gx_r 144), (1, gx_r 212), (2, .inl g), (3, .inl (e + 1))], [.inl 1, .inl 0], t104, n, 0)) rfl (fun _ => rfl) rfl ?_
  refine ex_go (S := (71, [(7, .inl 0), (6, .inl o), (5, .inl (P 3)), (4, .inl e), (0, gx_r 144), (1, gx_r 212), (2, .inl g), (3, .inl (e + 1))], [.inl 1], t104, n, 0)) rfl (fun _ => rfl) rfl ?_
  refine ex_go (S := (72, [(7, .inl 0), (6, .inl o), (5, .inl (P 3)), (4, .inl e), (0, gx_r 144), (1, gx_r 212), (2, .inl g), (3, .inl (e + 1))], [.inl 2, .inl 1], t104, n, 0)) rfl (fun _ => rfl) rfl ?_
  refine gx_inn (m := 1) rfl rfl rfl (by decide) rfl rfl ?_
  refine ex_go (S := (77, [(8, .inl 1), (7, .inl 0), (6, .inl o), (5, .inl (P 3)), (4, .inl e), (0, gx_r 144), (1, gx_r 212), (2, .inl g), (3, .inl (e + 1))], [], t104, n, 0)) rfl (fun _ => rfl) rfl ?_
  refine ex_go (S := (78, [(8, .inl 1), (7, .inl 0), (6, .inl o), (5, .inl (P 3)), (4, .inl e), (0, gx_r 144), (1, gx_r 212), (2, .inl g), (3, .inl (e + 1))], [gx_r 144], t104, n, 0)) rfl (fun _ => rfl) rfl ?_
  refine gxo_ref (a := 144) (c := 145) rfl g104 rfl rfl rfl rfl rfl ?_
  refine ex_go (S := (82, [(8, .inl 1), (7, .inl 0), (6, .inl o), (5, .inl (P 3)), (4, .inl e), (0, gx_r 144), (1, gx_r 212), (2, .inl g), (3, .inl (e + 1))], [.inl g, gx_r 145], t104, n, 0)) rfl (fun _ => rfl) rfl ?_
  refine ex_go (S := (84, [(8, .inl 1), (7, .inl 0), (6, .inl o), (5, .inl (P 3)), (4, .inl e), (0, gx_r 144), (1, gx_r 212), (2, .inl g), (3, .inl (e + 1))], [.inl 0, .inl g, gx_r 145], t104, n, 0)) rfl (fun _ => rfl) rfl ?_
  refine ex_go (S := (85, [(8, .inl 1), (7, .inl 0), (6, .inl o), (5, .inl (P 3)), (4, .inl e), (0, gx_r 144), (1, gx_r 212), (2, .inl g), (3, .inl (e + 1))], [.inl (e + 1), .inl 0, .inl g, gx_r 145], t104, n, 0)) rfl (fun _ => rfl) rfl ?_
  obtain ⟨_, r6, rfl⟩ := pc_gapIndex (d + 3) n (t0 := t104) (g := g) (w := 0) (e := e + 1) (by first | decide | omega)
  refine ex_stat rfl rfl rfl rfl rfl r6 (Nat.le_refl _) rfl ?_
  show en_ex _ _ _ _ (88, [(8, .inl 1), (7, .inl 0), (6, .inl o), (5, .inl (P 3)), (4, .inl e), (0, gx_r 144), (1, gx_r 212), (2, .inl g), (3, .inl (e + 1))], [.inl (((g * 4) + 0) * 41 + (e + 1)), gx_r 145], t104, n, 0) _
  refine ex_go (S := (89, [(8, .inl 1), (7, .inl 0), (6, .inl o), (5, .inl (P 3)), (4, .inl e), (0, gx_r 144), (1, gx_r 212), (2, .inl g), (3, .inl (e + 1))], [.inl 2, .inl (((g * 4) + 0) * 41 + (e + 1)), gx_r 145], t104, n, 0)) rfl (fun _ => rfl) rfl ?_
  refine ex_go (S := (91, [(8, .inl 1), (7, .inl 0), (6, .inl o), (5, .inl (P 3)), (4, .inl e), (0, gx_r 144), (1, gx_r 212), (2, .inl g), (3, .inl (e + 1))], [.inl (P 3), .inl 2, .inl (((g * 4) + 0) * 41 + (e + 1)), gx_r 145], t104, n, 0)) rfl (fun _ => rfl) rfl ?_
  refine gx_imul rfl (by first | decide | omega) rfl ?_
  refine ex_go (S := (94, [(8, .inl 1), (7, .inl 0), (6, .inl o), (5, .inl (P 3)), (4, .inl e), (0, gx_r 144), (1, gx_r 212), (2, .inl g), (3, .inl (e + 1))], [.inl 8, .inl (2 * (P 3)), .inl (((g * 4) + 0) * 41 + (e + 1)), gx_r 145], t104, n, 0)) rfl (fun _ => rfl) rfl ?_
  refine ex_go (S := (95, [(8, .inl 1), (7, .inl 0), (6, .inl o), (5, .inl (P 3)), (4, .inl e), (0, gx_r 144), (1, gx_r 212), (2, .inl g), (3, .inl (e + 1))], [gx_r 144, .inl 8, .inl (2 * (P 3)), .inl (((g * 4) + 0) * 41 + (e + 1)), gx_r 145], t104, n, 0)) rfl (fun _ => rfl) rfl ?_
  refine ex_go (S := (96, [(8, .inl 1), (7, .inl 0), (6, .inl o), (5, .inl (P 3)), (4, .inl e), (0, gx_r 144), (1, gx_r 212), (2, .inl g), (3, .inl (e + 1))], [gx_r 212, gx_r 144, .inl 8, .inl (2 * (P 3)), .inl (((g * 4) + 0) * 41 + (e + 1)), gx_r 145], t104, n, 0)) rfl (fun _ => rfl) rfl ?_
  refine ex_go (S := (97, [(8, .inl 1), (7, .inl 0), (6, .inl o), (5, .inl (P 3)), (4, .inl e), (0, gx_r 144), (1, gx_r 212), (2, .inl g), (3, .inl (e + 1))], [.inl g, gx_r 212, gx_r 144, .inl 8, .inl (2 * (P 3)), .inl (((g * 4) + 0) * 41 + (e + 1)), gx_r 145], t104, n, 0)) rfl (fun _ => rfl) rfl ?_
  refine ex_go (S := (99, [(8, .inl 1), (7, .inl 0), (6, .inl o), (5, .inl (P 3)), (4, .inl e), (0, gx_r 144), (1, gx_r 212), (2, .inl g), (3, .inl (e + 1))], [.inl 1, .inl g, gx_r 212, gx_r 144, .inl 8, .inl (2 * (P 3)), .inl (((g * 4) + 0) * 41 + (e + 1)), gx_r 145], t104, n, 0)) rfl (fun _ => rfl) rfl ?_
  refine ex_go (S := (101, [(8, .inl 1), (7, .inl 0), (6, .inl o), (5, .inl (P 3)), (4, .inl e), (0, gx_r 144), (1, gx_r 212), (2, .inl g), (3, .inl (e + 1))], [.inl e, .inl 1, .inl g, gx_r 212, gx_r 144, .inl 8, .inl (2 * (P 3)), .inl (((g * 4) + 0) * 41 + (e + 1)), gx_r 145], t104, n, 0)) rfl (fun _ => rfl) rfl ?_
  obtain ⟨_, r7, rfl⟩ := pc_open212 d n (w := 1) g104 (by first | decide | omega) ((e104 215 (g) (by first | decide | omega)).trans (k1)) hq ((e104 145 ((((g + 1) * 4) + 3) * 41 + e) (by first | decide | omega)).trans (k2)) hX ((e104 145 (((g * 4) + 1) * 41 + e) (by first | decide | omega)).trans (kP 1 (by first | decide | omega))) (hP 1 (by first | decide | omega))
  refine gx_callo (a := 144) rfl rfl g104 rfl rfl rfl r7 rfl ?_
  show en_ex _ _ _ _ (104, [(8, .inl 1), (7, .inl 0), (6, .inl o), (5, .inl (P 3)), (4, .inl e), (0, gx_r 144), (1, gx_r 212), (2, .inl g), (3, .inl (e + 1))], [.inl (gO q 1 X (P 1)), .inl 8, .inl (2 * (P 3)), .inl (((g * 4) + 0) * 41 + (e + 1)), gx_r 145], t104, n, 0) _
  refine gx_imul rfl (by first | decide | omega) rfl ?_
  refine ex_iadd rfl (by first | decide | omega) rfl ?_
  refine ex_go (S := (108, [(8, .inl 1), (7, .inl 0), (6, .inl o), (5, .inl (P 3)), (4, .inl e), (0, gx_r 144), (1, gx_r 212), (2, .inl g), (3, .inl (e + 1))], [.inl 10, .inl ((2 * (P 3)) + (8 * (gO q 1 X (P 1)))), .inl (((g * 4) + 0) * 41 + (e + 1)), gx_r 145], t104, n, 0)) rfl (fun _ => rfl) rfl ?_
  refine gx_idivn rfl (by first | decide | omega) (by first | decide | omega) (by first | decide | omega) rfl ?_
  refine gx_ap rfl (fun _ => rfl) g104 rfl rfl rfl (show ((g * 4) + 0) * 41 + (e + 1) < 984 from by omega) (gx_run1 (show ((g * 4) + 0) * 41 + (e + 1) < 984 from by omega)) (gx_full (by first | decide | omega)) rfl (fun t108 g108 k108 e108 => ?_)
  have k9 : ai_hv t108 214 g = some (.inl o) := (e108 214 g (by first | decide | omega)).trans k5
  have k10 : ai_hv t108 145 (((g * 4) + 3) * 41 + (e + 1)) = some (.inl (((o * (gO q 0 X (P 0))) + ((10 - o) * (P 3))) / 10)) := (e108 145 (((g * 4) + 3) * 41 + (e + 1)) (by first | decide | omega)).trans k104
  refine ex_go (S := (113, [(7, .inl 1), (8, .inl 1), (6, .inl o), (5, .inl (P 3)), (4, .inl e), (0, gx_r 144), (1, gx_r 212), (2, .inl g), (3, .inl (e + 1))], [], t108, n, 0)) rfl (fun _ => rfl) rfl ?_
  refine ex_go (S := (61, [(7, .inl 1), (8, .inl 1), (6, .inl o), (5, .inl (P 3)), (4, .inl e), (0, gx_r 144), (1, gx_r 212), (2, .inl g), (3, .inl (e + 1))], [], t108, n, 0)) rfl (fun _ => rfl) rfl ?_
  refine ex_go (S := (63, [(7, .inl 1), (8, .inl 1), (6, .inl o), (5, .inl (P 3)), (4, .inl e), (0, gx_r 144), (1, gx_r 212), (2, .inl g), (3, .inl (e + 1))], [.inl 1], t108, n, 0)) rfl (fun _ => rfl) rfl ?_
  refine ex_go (S := (64, [(7, .inl 1), (8, .inl 1), (6, .inl o), (5, .inl (P 3)), (4, .inl e), (0, gx_r 144), (1, gx_r 212), (2, .inl g), (3, .inl (e + 1))], [.inl 2, .inl 1], t108, n, 0)) rfl (fun _ => rfl) rfl ?_
  refine ex_go (S := (67, [(7, .inl 1), (8, .inl 1), (6, .inl o), (5, .inl (P 3)), (4, .inl e), (0, gx_r 144), (1, gx_r 212), (2, .inl g), (3, .inl (e + 1))], [], t108, n, 0)) rfl (fun _ => rfl) rfl ?_
  refine ex_go (S := (69, [(7, .inl 1), (8, .inl 1), (6, .inl o), (5, .inl (P 3)), (4, .inl e), (0, gx_r 144), (1, gx_r 212), (2, .inl g), (3, .inl (e + 1))], [.inl 1], t108, n, 0)) rfl (fun _ => rfl) rfl ?_
  refine ex_go (S := (70, [(7, .inl 1), (8, .inl 1), (6, .inl o), (5, .inl (P 3)), (4, .inl e), (0, gx_r 144), (1, gx_r 212), (2, .inl g), (3, .inl (e + 1))], [.inl 1, .inl 1], t108, n, 0)) rfl (fun _ => rfl) rfl ?_
  refine ex_go (S := (71, [(7, .inl 1), (8, .inl 1), (6, .inl o), (5, .inl (P 3)), (4, .inl e), (0, gx_r 144), (1, gx_r 212), (2, .inl g), (3, .inl (e + 1))], [.inl 2], t108, n, 0)) rfl (fun _ => rfl) rfl ?_
  refine ex_go (S := (72, [(7, .inl 1), (8, .inl 1), (6, .inl o), (5, .inl (P 3)), (4, .inl e), (0, gx_r 144), (1, gx_r 212), (2, .inl g), (3, .inl (e + 1))], [.inl 2, .inl 2], t108, n, 0)) rfl (fun _ => rfl) rfl ?_
  refine gx_inn (m := 2) rfl rfl rfl (by decide) rfl rfl ?_
  refine ex_go (S := (77, [(8, .inl 2), (7, .inl 1), (6, .inl o), (5, .inl (P 3)), (4, .inl e), (0, gx_r 144), (1, gx_r 212), (2, .inl g), (3, .inl (e + 1))], [], t108, n, 0)) rfl (fun _ => rfl) rfl ?_
  refine ex_go (S := (78, [(8, .inl 2), (7, .inl 1), (6, .inl o), (5, .inl (P 3)), (4, .inl e), (0, gx_r 144), (1, gx_r 212), (2, .inl g), (3, .inl (e + 1))], [gx_r 144], t108, n, 0)) rfl (fun _ => rfl) rfl ?_
  refine gxo_ref (a := 144) (c := 145) rfl g108 rfl rfl rfl rfl rfl ?_
  refine ex_go (S := (82, [(8, .inl 2), (7, .inl 1), (6, .inl o), (5, .inl (P 3)), (4, .inl e), (0, gx_r 144), (1, gx_r 212), (2, .inl g), (3, .inl (e + 1))], [.inl g, gx_r 145], t108, n, 0)) rfl (fun _ => rfl) rfl ?_
  refine ex_go (S := (84, [(8, .inl 2), (7, .inl 1), (6, .inl o), (5, .inl (P 3)), (4, .inl e), (0, gx_r 144), (1, gx_r 212), (2, .inl g), (3, .inl (e + 1))], [.inl 1, .inl g, gx_r 145], t108, n, 0)) rfl (fun _ => rfl) rfl ?_
  refine ex_go (S := (85, [(8, .inl 2), (7, .inl 1), (6, .inl o), (5, .inl (P 3)), (4, .inl e), (0, gx_r 144), (1, gx_r 212), (2, .inl g), (3, .inl (e + 1))], [.inl (e + 1), .inl 1, .inl g, gx_r 145], t108, n, 0)) rfl (fun _ => rfl) rfl ?_
  obtain ⟨_, r11, rfl⟩ := pc_gapIndex (d + 3) n (t0 := t108) (g := g) (w := 1) (e := e + 1) (by first | decide | omega)
  refine ex_stat rfl rfl rfl rfl rfl r11 (Nat.le_refl _) rfl ?_
  show en_ex _ _ _ _ (88, [(8, .inl 2), (7, .inl 1), (6, .inl o), (5, .inl (P 3)), (4, .inl e), (0, gx_r 144), (1, gx_r 212), (2, .inl g), (3, .inl (e + 1))], [.inl (((g * 4) + 1) * 41 + (e + 1)), gx_r 145], t108, n, 0) _
  refine ex_go (S := (89, [(8, .inl 2), (7, .inl 1), (6, .inl o), (5, .inl (P 3)), (4, .inl e), (0, gx_r 144), (1, gx_r 212), (2, .inl g), (3, .inl (e + 1))], [.inl 2, .inl (((g * 4) + 1) * 41 + (e + 1)), gx_r 145], t108, n, 0)) rfl (fun _ => rfl) rfl ?_
  refine ex_go (S := (91, [(8, .inl 2), (7, .inl 1), (6, .inl o), (5, .inl (P 3)), (4, .inl e), (0, gx_r 144), (1, gx_r 212), (2, .inl g), (3, .inl (e + 1))], [.inl (P 3), .inl 2, .inl (((g * 4) + 1) * 41 + (e + 1)), gx_r 145], t108, n, 0)) rfl (fun _ => rfl) rfl ?_
  refine gx_imul rfl (by first | decide | omega) rfl ?_
  refine ex_go (S := (94, [(8, .inl 2), (7, .inl 1), (6, .inl o), (5, .inl (P 3)), (4, .inl e), (0, gx_r 144), (1, gx_r 212), (2, .inl g), (3, .inl (e + 1))], [.inl 8, .inl (2 * (P 3)), .inl (((g * 4) + 1) * 41 + (e + 1)), gx_r 145], t108, n, 0)) rfl (fun _ => rfl) rfl ?_
  refine ex_go (S := (95, [(8, .inl 2), (7, .inl 1), (6, .inl o), (5, .inl (P 3)), (4, .inl e), (0, gx_r 144), (1, gx_r 212), (2, .inl g), (3, .inl (e + 1))], [gx_r 144, .inl 8, .inl (2 * (P 3)), .inl (((g * 4) + 1) * 41 + (e + 1)), gx_r 145], t108, n, 0)) rfl (fun _ => rfl) rfl ?_
  refine ex_go (S := (96, [(8, .inl 2), (7, .inl 1), (6, .inl o), (5, .inl (P 3)), (4, .inl e), (0, gx_r 144), (1, gx_r 212), (2, .inl g), (3, .inl (e + 1))], [gx_r 212, gx_r 144, .inl 8, .inl (2 * (P 3)), .inl (((g * 4) + 1) * 41 + (e + 1)), gx_r 145], t108, n, 0)) rfl (fun _ => rfl) rfl ?_
  refine ex_go (S := (97, [(8, .inl 2), (7, .inl 1), (6, .inl o), (5, .inl (P 3)), (4, .inl e), (0, gx_r 144), (1, gx_r 212), (2, .inl g), (3, .inl (e + 1))], [.inl g, gx_r 212, gx_r 144, .inl 8, .inl (2 * (P 3)), .inl (((g * 4) + 1) * 41 + (e + 1)), gx_r 145], t108, n, 0)) rfl (fun _ => rfl) rfl ?_
  refine ex_go (S := (99, [(8, .inl 2), (7, .inl 1), (6, .inl o), (5, .inl (P 3)), (4, .inl e), (0, gx_r 144), (1, gx_r 212), (2, .inl g), (3, .inl (e + 1))], [.inl 2, .inl g, gx_r 212, gx_r 144, .inl 8, .inl (2 * (P 3)), .inl (((g * 4) + 1) * 41 + (e + 1)), gx_r 145], t108, n, 0)) rfl (fun _ => rfl) rfl ?_
  refine ex_go (S := (101, [(8, .inl 2), (7, .inl 1), (6, .inl o), (5, .inl (P 3)), (4, .inl e), (0, gx_r 144), (1, gx_r 212), (2, .inl g), (3, .inl (e + 1))], [.inl e, .inl 2, .inl g, gx_r 212, gx_r 144, .inl 8, .inl (2 * (P 3)), .inl (((g * 4) + 1) * 41 + (e + 1)), gx_r 145], t108, n, 0)) rfl (fun _ => rfl) rfl ?_
  obtain ⟨_, r12, rfl⟩ := pc_open212 d n (w := 2) g108 (by first | decide | omega) ((e108 215 (g) (by first | decide | omega)).trans ((e104 215 (g) (by first | decide | omega)).trans (k1))) hq ((e108 145 ((((g + 1) * 4) + 3) * 41 + e) (by first | decide | omega)).trans ((e104 145 ((((g + 1) * 4) + 3) * 41 + e) (by first | decide | omega)).trans (k2))) hX ((e108 145 (((g * 4) + 2) * 41 + e) (by first | decide | omega)).trans ((e104 145 (((g * 4) + 2) * 41 + e) (by first | decide | omega)).trans (kP 2 (by first | decide | omega)))) (hP 2 (by first | decide | omega))
  refine gx_callo (a := 144) rfl rfl g108 rfl rfl rfl r12 rfl ?_
  show en_ex _ _ _ _ (104, [(8, .inl 2), (7, .inl 1), (6, .inl o), (5, .inl (P 3)), (4, .inl e), (0, gx_r 144), (1, gx_r 212), (2, .inl g), (3, .inl (e + 1))], [.inl (gO q 2 X (P 2)), .inl 8, .inl (2 * (P 3)), .inl (((g * 4) + 1) * 41 + (e + 1)), gx_r 145], t108, n, 0) _
  refine gx_imul rfl (by first | decide | omega) rfl ?_
  refine ex_iadd rfl (by first | decide | omega) rfl ?_
  refine ex_go (S := (108, [(8, .inl 2), (7, .inl 1), (6, .inl o), (5, .inl (P 3)), (4, .inl e), (0, gx_r 144), (1, gx_r 212), (2, .inl g), (3, .inl (e + 1))], [.inl 10, .inl ((2 * (P 3)) + (8 * (gO q 2 X (P 2)))), .inl (((g * 4) + 1) * 41 + (e + 1)), gx_r 145], t108, n, 0)) rfl (fun _ => rfl) rfl ?_
  refine gx_idivn rfl (by first | decide | omega) (by first | decide | omega) (by first | decide | omega) rfl ?_
  refine gx_ap rfl (fun _ => rfl) g108 rfl rfl rfl (show ((g * 4) + 1) * 41 + (e + 1) < 984 from by omega) (gx_run1 (show ((g * 4) + 1) * 41 + (e + 1) < 984 from by omega)) (gx_full (by first | decide | omega)) rfl (fun t113 g113 k113 e113 => ?_)
  have k14 : ai_hv t113 214 g = some (.inl o) := (e113 214 g (by first | decide | omega)).trans k9
  have k15 : ai_hv t113 145 (((g * 4) + 3) * 41 + (e + 1)) = some (.inl (((o * (gO q 0 X (P 0))) + ((10 - o) * (P 3))) / 10)) := (e113 145 (((g * 4) + 3) * 41 + (e + 1)) (by first | decide | omega)).trans k10
  have k16 : ai_hv t113 145 (((g * 4) + 0) * 41 + (e + 1)) = some (.inl (((2 * (P 3)) + (8 * (gO q 1 X (P 1)))) / 10)) := (e113 145 (((g * 4) + 0) * 41 + (e + 1)) (by first | decide | omega)).trans k108
  refine ex_go (S := (113, [(7, .inl 2), (8, .inl 2), (6, .inl o), (5, .inl (P 3)), (4, .inl e), (0, gx_r 144), (1, gx_r 212), (2, .inl g), (3, .inl (e + 1))], [], t113, n, 0)) rfl (fun _ => rfl) rfl ?_
  refine ex_go (S := (61, [(7, .inl 2), (8, .inl 2), (6, .inl o), (5, .inl (P 3)), (4, .inl e), (0, gx_r 144), (1, gx_r 212), (2, .inl g), (3, .inl (e + 1))], [], t113, n, 0)) rfl (fun _ => rfl) rfl ?_
  refine ex_go (S := (63, [(7, .inl 2), (8, .inl 2), (6, .inl o), (5, .inl (P 3)), (4, .inl e), (0, gx_r 144), (1, gx_r 212), (2, .inl g), (3, .inl (e + 1))], [.inl 2], t113, n, 0)) rfl (fun _ => rfl) rfl ?_
  refine ex_go (S := (64, [(7, .inl 2), (8, .inl 2), (6, .inl o), (5, .inl (P 3)), (4, .inl e), (0, gx_r 144), (1, gx_r 212), (2, .inl g), (3, .inl (e + 1))], [.inl 2, .inl 2], t113, n, 0)) rfl (fun _ => rfl) rfl ?_
  refine ex_go (S := (67, [(7, .inl 2), (8, .inl 2), (6, .inl o), (5, .inl (P 3)), (4, .inl e), (0, gx_r 144), (1, gx_r 212), (2, .inl g), (3, .inl (e + 1))], [], t113, n, 0)) rfl (fun _ => rfl) rfl ?_
  refine ex_go (S := (69, [(7, .inl 2), (8, .inl 2), (6, .inl o), (5, .inl (P 3)), (4, .inl e), (0, gx_r 144), (1, gx_r 212), (2, .inl g), (3, .inl (e + 1))], [.inl 2], t113, n, 0)) rfl (fun _ => rfl) rfl ?_
  refine ex_go (S := (70, [(7, .inl 2), (8, .inl 2), (6, .inl o), (5, .inl (P 3)), (4, .inl e), (0, gx_r 144), (1, gx_r 212), (2, .inl g), (3, .inl (e + 1))], [.inl 1, .inl 2], t113, n, 0)) rfl (fun _ => rfl) rfl ?_
  refine ex_go (S := (71, [(7, .inl 2), (8, .inl 2), (6, .inl o), (5, .inl (P 3)), (4, .inl e), (0, gx_r 144), (1, gx_r 212), (2, .inl g), (3, .inl (e + 1))], [.inl 3], t113, n, 0)) rfl (fun _ => rfl) rfl ?_
  refine ex_go (S := (72, [(7, .inl 2), (8, .inl 2), (6, .inl o), (5, .inl (P 3)), (4, .inl e), (0, gx_r 144), (1, gx_r 212), (2, .inl g), (3, .inl (e + 1))], [.inl 2, .inl 3], t113, n, 0)) rfl (fun _ => rfl) rfl ?_
  refine gx_inn (m := 2) rfl rfl rfl (by decide) rfl rfl ?_
  refine ex_go (S := (77, [(8, .inl 2), (7, .inl 2), (6, .inl o), (5, .inl (P 3)), (4, .inl e), (0, gx_r 144), (1, gx_r 212), (2, .inl g), (3, .inl (e + 1))], [], t113, n, 0)) rfl (fun _ => rfl) rfl ?_
  refine ex_go (S := (78, [(8, .inl 2), (7, .inl 2), (6, .inl o), (5, .inl (P 3)), (4, .inl e), (0, gx_r 144), (1, gx_r 212), (2, .inl g), (3, .inl (e + 1))], [gx_r 144], t113, n, 0)) rfl (fun _ => rfl) rfl ?_
  refine gxo_ref (a := 144) (c := 145) rfl g113 rfl rfl rfl rfl rfl ?_
  refine ex_go (S := (82, [(8, .inl 2), (7, .inl 2), (6, .inl o), (5, .inl (P 3)), (4, .inl e), (0, gx_r 144), (1, gx_r 212), (2, .inl g), (3, .inl (e + 1))], [.inl g, gx_r 145], t113, n, 0)) rfl (fun _ => rfl) rfl ?_
  refine ex_go (S := (84, [(8, .inl 2), (7, .inl 2), (6, .inl o), (5, .inl (P 3)), (4, .inl e), (0, gx_r 144), (1, gx_r 212), (2, .inl g), (3, .inl (e + 1))], [.inl 2, .inl g, gx_r 145], t113, n, 0)) rfl (fun _ => rfl) rfl ?_
  refine ex_go (S := (85, [(8, .inl 2), (7, .inl 2), (6, .inl o), (5, .inl (P 3)), (4, .inl e), (0, gx_r 144), (1, gx_r 212), (2, .inl g), (3, .inl (e + 1))], [.inl (e + 1), .inl 2, .inl g, gx_r 145], t113, n, 0)) rfl (fun _ => rfl) rfl ?_
  obtain ⟨_, r17, rfl⟩ := pc_gapIndex (d + 3) n (t0 := t113) (g := g) (w := 2) (e := e + 1) (by first | decide | omega)
  refine ex_stat rfl rfl rfl rfl rfl r17 (Nat.le_refl _) rfl ?_
  show en_ex _ _ _ _ (88, [(8, .inl 2), (7, .inl 2), (6, .inl o), (5, .inl (P 3)), (4, .inl e), (0, gx_r 144), (1, gx_r 212), (2, .inl g), (3, .inl (e + 1))], [.inl (((g * 4) + 2) * 41 + (e + 1)), gx_r 145], t113, n, 0) _
  refine ex_go (S := (89, [(8, .inl 2), (7, .inl 2), (6, .inl o), (5, .inl (P 3)), (4, .inl e), (0, gx_r 144), (1, gx_r 212), (2, .inl g), (3, .inl (e + 1))], [.inl 2, .inl (((g * 4) + 2) * 41 + (e + 1)), gx_r 145], t113, n, 0)) rfl (fun _ => rfl) rfl ?_
  refine ex_go (S := (91, [(8, .inl 2), (7, .inl 2), (6, .inl o), (5, .inl (P 3)), (4, .inl e), (0, gx_r 144), (1, gx_r 212), (2, .inl g), (3, .inl (e + 1))], [.inl (P 3), .inl 2, .inl (((g * 4) + 2) * 41 + (e + 1)), gx_r 145], t113, n, 0)) rfl (fun _ => rfl) rfl ?_
  refine gx_imul rfl (by first | decide | omega) rfl ?_
  refine ex_go (S := (94, [(8, .inl 2), (7, .inl 2), (6, .inl o), (5, .inl (P 3)), (4, .inl e), (0, gx_r 144), (1, gx_r 212), (2, .inl g), (3, .inl (e + 1))], [.inl 8, .inl (2 * (P 3)), .inl (((g * 4) + 2) * 41 + (e + 1)), gx_r 145], t113, n, 0)) rfl (fun _ => rfl) rfl ?_
  refine ex_go (S := (95, [(8, .inl 2), (7, .inl 2), (6, .inl o), (5, .inl (P 3)), (4, .inl e), (0, gx_r 144), (1, gx_r 212), (2, .inl g), (3, .inl (e + 1))], [gx_r 144, .inl 8, .inl (2 * (P 3)), .inl (((g * 4) + 2) * 41 + (e + 1)), gx_r 145], t113, n, 0)) rfl (fun _ => rfl) rfl ?_
  refine ex_go (S := (96, [(8, .inl 2), (7, .inl 2), (6, .inl o), (5, .inl (P 3)), (4, .inl e), (0, gx_r 144), (1, gx_r 212), (2, .inl g), (3, .inl (e + 1))], [gx_r 212, gx_r 144, .inl 8, .inl (2 * (P 3)), .inl (((g * 4) + 2) * 41 + (e + 1)), gx_r 145], t113, n, 0)) rfl (fun _ => rfl) rfl ?_
  refine ex_go (S := (97, [(8, .inl 2), (7, .inl 2), (6, .inl o), (5, .inl (P 3)), (4, .inl e), (0, gx_r 144), (1, gx_r 212), (2, .inl g), (3, .inl (e + 1))], [.inl g, gx_r 212, gx_r 144, .inl 8, .inl (2 * (P 3)), .inl (((g * 4) + 2) * 41 + (e + 1)), gx_r 145], t113, n, 0)) rfl (fun _ => rfl) rfl ?_
  refine ex_go (S := (99, [(8, .inl 2), (7, .inl 2), (6, .inl o), (5, .inl (P 3)), (4, .inl e), (0, gx_r 144), (1, gx_r 212), (2, .inl g), (3, .inl (e + 1))], [.inl 2, .inl g, gx_r 212, gx_r 144, .inl 8, .inl (2 * (P 3)), .inl (((g * 4) + 2) * 41 + (e + 1)), gx_r 145], t113, n, 0)) rfl (fun _ => rfl) rfl ?_
  refine ex_go (S := (101, [(8, .inl 2), (7, .inl 2), (6, .inl o), (5, .inl (P 3)), (4, .inl e), (0, gx_r 144), (1, gx_r 212), (2, .inl g), (3, .inl (e + 1))], [.inl e, .inl 2, .inl g, gx_r 212, gx_r 144, .inl 8, .inl (2 * (P 3)), .inl (((g * 4) + 2) * 41 + (e + 1)), gx_r 145], t113, n, 0)) rfl (fun _ => rfl) rfl ?_
  obtain ⟨_, r18, rfl⟩ := pc_open212 d n (w := 2) g113 (by first | decide | omega) ((e113 215 (g) (by first | decide | omega)).trans ((e108 215 (g) (by first | decide | omega)).trans ((e104 215 (g) (by first | decide | omega)).trans (k1)))) hq ((e113 145 ((((g + 1) * 4) + 3) * 41 + e) (by first | decide | omega)).trans ((e108 145 ((((g + 1) * 4) + 3) * 41 + e) (by first | decide | omega)).trans ((e104 145 ((((g + 1) * 4) + 3) * 41 + e) (by first | decide | omega)).trans (k2)))) hX ((e113 145 (((g * 4) + 2) * 41 + e) (by first | decide | omega)).trans ((e108 145 (((g * 4) + 2) * 41 + e) (by first | decide | omega)).trans ((e104 145 (((g * 4) + 2) * 41 + e) (by first | decide | omega)).trans (kP 2 (by first | decide | omega))))) (hP 2 (by first | decide | omega))
  refine gx_callo (a := 144) rfl rfl g113 rfl rfl rfl r18 rfl ?_
  show en_ex _ _ _ _ (104, [(8, .inl 2), (7, .inl 2), (6, .inl o), (5, .inl (P 3)), (4, .inl e), (0, gx_r 144), (1, gx_r 212), (2, .inl g), (3, .inl (e + 1))], [.inl (gO q 2 X (P 2)), .inl 8, .inl (2 * (P 3)), .inl (((g * 4) + 2) * 41 + (e + 1)), gx_r 145], t113, n, 0) _
  refine gx_imul rfl (by first | decide | omega) rfl ?_
  refine ex_iadd rfl (by first | decide | omega) rfl ?_
  refine ex_go (S := (108, [(8, .inl 2), (7, .inl 2), (6, .inl o), (5, .inl (P 3)), (4, .inl e), (0, gx_r 144), (1, gx_r 212), (2, .inl g), (3, .inl (e + 1))], [.inl 10, .inl ((2 * (P 3)) + (8 * (gO q 2 X (P 2)))), .inl (((g * 4) + 2) * 41 + (e + 1)), gx_r 145], t113, n, 0)) rfl (fun _ => rfl) rfl ?_
  refine gx_idivn rfl (by first | decide | omega) (by first | decide | omega) (by first | decide | omega) rfl ?_
  refine gx_ap rfl (fun _ => rfl) g113 rfl rfl rfl (show ((g * 4) + 2) * 41 + (e + 1) < 984 from by omega) (gx_run1 (show ((g * 4) + 2) * 41 + (e + 1) < 984 from by omega)) (gx_full (by first | decide | omega)) rfl (fun t119 g119 k119 e119 => ?_)
  have k20 : ai_hv t119 214 g = some (.inl o) := (e119 214 g (by first | decide | omega)).trans k14
  have k21 : ai_hv t119 145 (((g * 4) + 3) * 41 + (e + 1)) = some (.inl (((o * (gO q 0 X (P 0))) + ((10 - o) * (P 3))) / 10)) := (e119 145 (((g * 4) + 3) * 41 + (e + 1)) (by first | decide | omega)).trans k15
  have k22 : ai_hv t119 145 (((g * 4) + 0) * 41 + (e + 1)) = some (.inl (((2 * (P 3)) + (8 * (gO q 1 X (P 1)))) / 10)) := (e119 145 (((g * 4) + 0) * 41 + (e + 1)) (by first | decide | omega)).trans k16
  have k23 : ai_hv t119 145 (((g * 4) + 1) * 41 + (e + 1)) = some (.inl (((2 * (P 3)) + (8 * (gO q 2 X (P 2)))) / 10)) := (e119 145 (((g * 4) + 1) * 41 + (e + 1)) (by first | decide | omega)).trans k113
  refine ex_go (S := (113, [(7, .inl 3), (8, .inl 2), (6, .inl o), (5, .inl (P 3)), (4, .inl e), (0, gx_r 144), (1, gx_r 212), (2, .inl g), (3, .inl (e + 1))], [], t119, n, 0)) rfl (fun _ => rfl) rfl ?_
  refine ex_go (S := (61, [(7, .inl 3), (8, .inl 2), (6, .inl o), (5, .inl (P 3)), (4, .inl e), (0, gx_r 144), (1, gx_r 212), (2, .inl g), (3, .inl (e + 1))], [], t119, n, 0)) rfl (fun _ => rfl) rfl ?_
  refine ex_go (S := (63, [(7, .inl 3), (8, .inl 2), (6, .inl o), (5, .inl (P 3)), (4, .inl e), (0, gx_r 144), (1, gx_r 212), (2, .inl g), (3, .inl (e + 1))], [.inl 3], t119, n, 0)) rfl (fun _ => rfl) rfl ?_
  refine ex_go (S := (64, [(7, .inl 3), (8, .inl 2), (6, .inl o), (5, .inl (P 3)), (4, .inl e), (0, gx_r 144), (1, gx_r 212), (2, .inl g), (3, .inl (e + 1))], [.inl 2, .inl 3], t119, n, 0)) rfl (fun _ => rfl) rfl ?_
  refine ex_go (S := (116, [(7, .inl 3), (8, .inl 2), (6, .inl o), (5, .inl (P 3)), (4, .inl e), (0, gx_r 144), (1, gx_r 212), (2, .inl g), (3, .inl (e + 1))], [], t119, n, 0)) rfl (fun _ => rfl) rfl ?_
  refine ex_ret (r := (none, t119, n, 0)) rfl (fun _ => rfl) ?_
  refine ⟨_, rfl, t119, rfl, g119, (fun c i h => (e119 c i (by first | decide | omega)).trans ((e113 c i (by first | decide | omega)).trans ((e108 c i (by first | decide | omega)).trans (e104 c i (by first | decide | omega))))), fun w hw => ?_⟩
  rcases (show w = 0 ∨ w = 1 ∨ w = 2 ∨ w = 3 by omega) with rfl | rfl | rfl | rfl
  · exact k22
  · exact k23
  · exact k119
  · exact k21
theorem gp_A212 (d n : Nat) {tb : en_H} {K M s : Nat} {Q : en_O → Prop} (hK : K ≤ 5) (hM : M ≤ 40) (hs : s ≤ 3) (kK : ai_hv tb 212 5 = some (.inl K)) (hQ : ∀ t1, ai_HG ah_G t1 → (∀ e, e < M + 1 → ai_hv t1 145 (((K * 4) + s) * 41 + e) = some (.inl 1000000)) ∧ (∀ c i, ¬ (c = 145 ∧ (K * 4 + s) * 41 ≤ i ∧ i < (K * 4 + s) * 41 + 41) → ai_hv t1 c i = ai_hv tb c i) → en_ex none (en_u (d + 5)) (en_code 144) (fun _ => false) (39, [(4, .inl (M + 1)), (3, .inl s), (0, gx_r 144), (1, gx_r 212), (2, .inl M)], [], t1, n, 0) Q) : ∀ j k t0, k + j = M + 1 → ai_HG ah_G t0 → (∀ e, e < k → ai_hv t0 145 (((K * 4) + s) * 41 + e) = some (.inl 1000000)) ∧ (∀ c i, ¬ (c = 145 ∧ (K * 4 + s) * 41 ≤ i ∧ i < (K * 4 + s) * 41 + 41) → ai_hv t0 c i = ai_hv tb c i) → en_ex none (en_u (d + 5)) (en_code 144) (fun _ => false) (10, [(4, .inl k), (3, .inl s), (0, gx_r 144), (1, gx_r 212), (2, .inl M)], [], t0, n, 0) Q := by
  intro j
  induction j with
  | zero =>
    intro k t0 hk g0 i0
    have hk : k = M + 1 := by omega
    subst hk
    have kc := (i0.2 212 5 (by first | decide | omega)).trans kK
    refine ex_go (S := (12, [(4, .inl (M + 1)), (3, .inl s), (0, gx_r 144), (1, gx_r 212), (2, .inl M)], [.inl (M + 1)], t0, n, 0)) rfl (fun _ => rfl) rfl ?_
    refine ex_go (S := (13, [(4, .inl (M + 1)), (3, .inl s), (0, gx_r 144), (1, gx_r 212), (2, .inl M)], [.inl M, .inl (M + 1)], t0, n, 0)) rfl (fun _ => rfl) rfl ?_
    refine gx_2t (c := .gt) rfl (by first | decide | omega) (by first | decide | omega) (show M < M + 1 from by omega) rfl ?_
    exact hQ t0 g0 i0
  | succ j ih =>
    intro k t0 hk g0 i0
    have kc := (i0.2 212 5 (by first | decide | omega)).trans kK
    refine ex_go (S := (12, [(4, .inl k), (3, .inl s), (0, gx_r 144), (1, gx_r 212), (2, .inl M)], [.inl k], t0, n, 0)) rfl (fun _ => rfl) rfl ?_
    refine ex_go (S := (13, [(4, .inl k), (3, .inl s), (0, gx_r 144), (1, gx_r 212), (2, .inl M)], [.inl M, .inl k], t0, n, 0)) rfl (fun _ => rfl) rfl ?_
    refine gx_2f (c := .gt) rfl (by first | decide | omega) (by first | decide | omega) (show ¬ (M < k) from by omega) rfl ?_
    refine ex_go (S := (17, [(4, .inl k), (3, .inl s), (0, gx_r 144), (1, gx_r 212), (2, .inl M)], [gx_r 144], t0, n, 0)) rfl (fun _ => rfl) rfl ?_
    refine gxo_ref (a := 144) (c := 145) rfl g0 rfl rfl rfl rfl rfl ?_
    refine ex_go (S := (21, [(4, .inl k), (3, .inl s), (0, gx_r 144), (1, gx_r 212), (2, .inl M)], [gx_r 212, gx_r 145], t0, n, 0)) rfl (fun _ => rfl) rfl ?_
    refine gxo_get (a := 212) rfl g0 rfl rfl kc rfl ?_
    refine ex_go (S := (25, [(4, .inl k), (3, .inl s), (0, gx_r 144), (1, gx_r 212), (2, .inl M)], [.inl s, .inl K, gx_r 145], t0, n, 0)) rfl (fun _ => rfl) rfl ?_
    refine ex_go (S := (27, [(4, .inl k), (3, .inl s), (0, gx_r 144), (1, gx_r 212), (2, .inl M)], [.inl k, .inl s, .inl K, gx_r 145], t0, n, 0)) rfl (fun _ => rfl) rfl ?_
    obtain ⟨_, r1, rfl⟩ := pc_gapIndex (d + 4) n (t0 := t0) (g := K) (w := s) (e := k) (by first | decide | omega)
    refine ex_stat rfl rfl rfl rfl rfl r1 (Nat.le_refl _) rfl ?_
    show en_ex _ _ _ _ (30, [(4, .inl k), (3, .inl s), (0, gx_r 144), (1, gx_r 212), (2, .inl M)], [.inl (((K * 4) + s) * 41 + k), gx_r 145], t0, n, 0) _
    refine ex_go (S := (32, [(4, .inl k), (3, .inl s), (0, gx_r 144), (1, gx_r 212), (2, .inl M)], [.inl 1000000, .inl (((K * 4) + s) * 41 + k), gx_r 145], t0, n, 0)) rfl (fun _ => rfl) rfl ?_
    refine gx_ap rfl (fun _ => rfl) g0 rfl rfl rfl (show ((K * 4) + s) * 41 + k < 984 from by omega) (gx_run1 (show ((K * 4) + s) * 41 + k < 984 from by omega)) (gx_full (by first | decide | omega)) rfl (fun t102 g102 k102 e102 => ?_)
    have k3 : ai_hv t102 212 5 = some (.inl K) := (e102 212 5 (by first | decide | omega)).trans kc
    refine gx_iinc (i := 4) (k := 1) rfl (fun _ => rfl) (by first | decide | omega) rfl ?_
    show en_ex _ _ _ _ (36, [(4, .inl (k + 1)), (3, .inl s), (0, gx_r 144), (1, gx_r 212), (2, .inl M)], [], t102, n, 0) _
    refine ex_go (S := (10, [(4, .inl (k + 1)), (3, .inl s), (0, gx_r 144), (1, gx_r 212), (2, .inl M)], [], t102, n, 0)) rfl (fun _ => rfl) rfl ?_
    refine ih (k + 1) t102 (by first | decide | omega) g102 ⟨fun e he => ?_, fun c i h => (e102 c i (by first | decide | omega)).trans (i0.2 c i h)⟩
    by_cases e9 : e = k
    · rw [e9]; exact k102
    · exact (e102 145 _ (by first | decide | omega)).trans (i0.1 e (by first | decide | omega))
theorem gp_B212 (d n : Nat) {tb : en_H} {M g : Nat} {Q : en_O → Prop} {o q : Nat} {nx : Nat → Nat} (hg : g ≤ 4) (hM : M ≤ 40) (kO : ai_hv tb 214 g = some (.inl o)) (ho : o ≤ 10) (k1 : ai_hv tb 215 g = some (.inl q)) (hq : q ≤ 10) (kX : ∀ e, e ≤ M → ai_hv tb 145 ((((g + 1) * 4) + 3) * 41 + e) = some (.inl (nx e))) (hX : ∀ e, nx e ≤ 1000000) (hQ : ∀ t1, ai_HG ah_G t1 → (∀ e, e < M + 1 → ∀ w, w ≤ 3 → ai_hv t1 145 (((g * 4) + w) * 41 + e) = some (.inl (gD o q nx e w))) ∧ (∀ c i, ¬ (c = 145 ∧ g * 4 * 41 ≤ i ∧ i < g * 4 * 41 + 164) → ai_hv t1 c i = ai_hv tb c i) → en_ex none (en_u (d + 5)) (en_code 144) (fun _ => false) (107, [(4, .inl (M + 1)), (3, .inl g), (0, gx_r 144), (1, gx_r 212), (2, .inl M)], [], t1, n, 0) Q) : ∀ j k t0, k + j = M + 1 → 1 ≤ k → ai_HG ah_G t0 → (∀ e, e < k → ∀ w, w ≤ 3 → ai_hv t0 145 (((g * 4) + w) * 41 + e) = some (.inl (gD o q nx e w))) ∧ (∀ c i, ¬ (c = 145 ∧ g * 4 * 41 ≤ i ∧ i < g * 4 * 41 + 164) → ai_hv t0 c i = ai_hv tb c i) → en_ex none (en_u (d + 5)) (en_code 144) (fun _ => false) (87, [(4, .inl k), (3, .inl g), (0, gx_r 144), (1, gx_r 212), (2, .inl M)], [], t0, n, 0) Q := by
  intro j
  induction j with
  | zero =>
    intro k t0 hk h1 g0 i0
    have hk : k = M + 1 := by omega
    subst hk
    refine ex_go (S := (89, [(4, .inl (M + 1)), (3, .inl g), (0, gx_r 144), (1, gx_r 212), (2, .inl M)], [.inl (M + 1)], t0, n, 0)) rfl (fun _ => rfl) rfl ?_
    refine ex_go (S := (90, [(4, .inl (M + 1)), (3, .inl g), (0, gx_r 144), (1, gx_r 212), (2, .inl M)], [.inl M, .inl (M + 1)], t0, n, 0)) rfl (fun _ => rfl) rfl ?_
    refine gx_2t (c := .gt) rfl (by first | decide | omega) (by first | decide | omega) (show M < M + 1 from by omega) rfl ?_
    exact hQ t0 g0 i0
  | succ j ih =>
    intro k t0 hk h1 g0 i0
    obtain ⟨e, rfl⟩ : ∃ e, k = e + 1 := ⟨k - 1, by omega⟩
    refine ex_go (S := (89, [(4, .inl (e + 1)), (3, .inl g), (0, gx_r 144), (1, gx_r 212), (2, .inl M)], [.inl (e + 1)], t0, n, 0)) rfl (fun _ => rfl) rfl ?_
    refine ex_go (S := (90, [(4, .inl (e + 1)), (3, .inl g), (0, gx_r 144), (1, gx_r 212), (2, .inl M)], [.inl M, .inl (e + 1)], t0, n, 0)) rfl (fun _ => rfl) rfl ?_
    refine gx_2f (c := .gt) rfl (by first | decide | omega) (by first | decide | omega) (show ¬ (M < e + 1) from by omega) rfl ?_
    refine ex_go (S := (94, [(4, .inl (e + 1)), (3, .inl g), (0, gx_r 144), (1, gx_r 212), (2, .inl M)], [gx_r 144], t0, n, 0)) rfl (fun _ => rfl) rfl ?_
    refine ex_go (S := (95, [(4, .inl (e + 1)), (3, .inl g), (0, gx_r 144), (1, gx_r 212), (2, .inl M)], [gx_r 212, gx_r 144], t0, n, 0)) rfl (fun _ => rfl) rfl ?_
    refine ex_go (S := (96, [(4, .inl (e + 1)), (3, .inl g), (0, gx_r 144), (1, gx_r 212), (2, .inl M)], [.inl g, gx_r 212, gx_r 144], t0, n, 0)) rfl (fun _ => rfl) rfl ?_
    refine ex_go (S := (98, [(4, .inl (e + 1)), (3, .inl g), (0, gx_r 144), (1, gx_r 212), (2, .inl M)], [.inl (e + 1), .inl g, gx_r 212, gx_r 144], t0, n, 0)) rfl (fun _ => rfl) rfl ?_
    obtain ⟨_, r101, t101, rfl, g101, e101, y101⟩ := pc_day212 d n (P := gD o q nx e) g0 (by first | decide | omega) ((i0.2 _ _ (by first | decide | omega)).trans kO) ho ((i0.2 _ _ (by first | decide | omega)).trans k1) hq ((i0.2 _ _ (by first | decide | omega)).trans (kX e (by first | decide | omega))) (hX e) (fun w hw => i0.1 e (by first | decide | omega) w hw) (fun w hw => gD_le ho hX e w)
    refine gx_callo (a := 144) rfl rfl g0 rfl rfl rfl r101 rfl ?_
    show en_ex _ _ _ _ (101, [(4, .inl (e + 1)), (3, .inl g), (0, gx_r 144), (1, gx_r 212), (2, .inl M)], [], t101, n, 0) _
    refine gx_iinc (i := 4) (k := 1) rfl (fun _ => rfl) (by first | decide | omega) rfl ?_
    show en_ex _ _ _ _ (104, [(4, .inl ((e + 1) + 1)), (3, .inl g), (0, gx_r 144), (1, gx_r 212), (2, .inl M)], [], t101, n, 0) _
    refine ex_go (S := (87, [(4, .inl ((e + 1) + 1)), (3, .inl g), (0, gx_r 144), (1, gx_r 212), (2, .inl M)], [], t101, n, 0)) rfl (fun _ => rfl) rfl ?_
    refine ih (e + 1 + 1) t101 (by first | decide | omega) (by first | decide | omega) g101 ⟨fun e1 he w hw => ?_, fun c i h => (e101 c i (by first | decide | omega)).trans (i0.2 c i h)⟩
    by_cases e9 : e1 = e + 1
    · rw [e9]; exact y101 w hw
    · exact (e101 145 _ (by first | decide | omega)).trans (i0.1 e1 (by first | decide | omega) w hw)
theorem gp_C212 (d n : Nat) {tb : en_H} {K M : Nat} {Q : en_O → Prop} {O N : Nat → Nat} (hK : K ≤ 5) (hM : M ≤ 40) (kO : ∀ g, g < K → ai_hv tb 214 g = some (.inl (O g))) (hO : ∀ g, g < K → O g ≤ 10) (kN : ∀ g, g < K → ai_hv tb 215 g = some (.inl (N g))) (hN : ∀ g, g < K → N g ≤ 10) (hQ : ∀ t1 c4, ai_HG ah_G t1 → (∀ g, 0 ≤ g → g ≤ K → ∀ e, e ≤ M → ∀ w, w ≤ 3 → ai_hv t1 145 (((g * 4) + w) * 41 + e) = some (.inl (gR O N K (K - g) e w))) ∧ (∀ c i, c ≠ 145 → ai_hv t1 c i = ai_hv tb c i) → en_ex none (en_u (d + 5)) (en_code 144) (fun _ => false) (113, [(3, .inl 4294967295), (4, .inl c4), (0, gx_r 144), (1, gx_r 212), (2, .inl M)], [], t1, n, 0) Q) : ∀ r t0 c4, r ≤ K → ai_HG ah_G t0 → (∀ g, r ≤ g → g ≤ K → ∀ e, e ≤ M → ∀ w, w ≤ 3 → ai_hv t0 145 (((g * 4) + w) * 41 + e) = some (.inl (gR O N K (K - g) e w))) ∧ (∀ c i, c ≠ 145 → ai_hv t0 c i = ai_hv tb c i) → en_ex none (en_u (d + 5)) (en_code 144) (fun _ => false) (52, [(3, .inl (gz r)), (4, .inl c4), (0, gx_r 144), (1, gx_r 212), (2, .inl M)], [], t0, n, 0) Q := by
  intro r
  induction r with
  | zero =>
    intro t0 c4 hr g0 i0
    show en_ex _ _ _ _ (52, [(3, .inl 4294967295), (4, .inl c4), (0, gx_r 144), (1, gx_r 212), (2, .inl M)], [], t0, n, 0) _
    refine ex_go (S := (53, [(3, .inl 4294967295), (4, .inl c4), (0, gx_r 144), (1, gx_r 212), (2, .inl M)], [.inl 4294967295], t0, n, 0)) rfl (fun _ => rfl) rfl ?_
    refine ex_go (S := (113, [(3, .inl 4294967295), (4, .inl c4), (0, gx_r 144), (1, gx_r 212), (2, .inl M)], [], t0, n, 0)) rfl (fun _ => rfl) rfl ?_
    exact hQ t0 c4 g0 i0
  | succ r ih =>
    intro t0 c4 hr g0 i0
    show en_ex _ _ _ _ (52, [(3, .inl r), (4, .inl c4), (0, gx_r 144), (1, gx_r 212), (2, .inl M)], [], t0, n, 0) _
    refine ex_go (S := (53, [(3, .inl r), (4, .inl c4), (0, gx_r 144), (1, gx_r 212), (2, .inl M)], [.inl r], t0, n, 0)) rfl (fun _ => rfl) rfl ?_
    refine gx_1f (c := .lt) rfl (by first | decide | omega) (show ¬ (r < 0) from by omega) rfl ?_
    refine ex_go (S := (57, [(3, .inl r), (4, .inl c4), (0, gx_r 144), (1, gx_r 212), (2, .inl M)], [.inl 0], t0, n, 0)) rfl (fun _ => rfl) rfl ?_
    refine ex_go (S := (59, [(4, .inl 0), (3, .inl r), (0, gx_r 144), (1, gx_r 212), (2, .inl M)], [], t0, n, 0)) rfl (fun _ => rfl) rfl ?_
    refine ex_go (S := (61, [(4, .inl 0), (3, .inl r), (0, gx_r 144), (1, gx_r 212), (2, .inl M)], [.inl 0], t0, n, 0)) rfl (fun _ => rfl) rfl ?_
    refine ex_go (S := (62, [(4, .inl 0), (3, .inl r), (0, gx_r 144), (1, gx_r 212), (2, .inl M)], [.inl 4, .inl 0], t0, n, 0)) rfl (fun _ => rfl) rfl ?_
    refine ex_go (S := (65, [(4, .inl 0), (3, .inl r), (0, gx_r 144), (1, gx_r 212), (2, .inl M)], [], t0, n, 0)) rfl (fun _ => rfl) rfl ?_
    refine ex_go (S := (66, [(4, .inl 0), (3, .inl r), (0, gx_r 144), (1, gx_r 212), (2, .inl M)], [gx_r 144], t0, n, 0)) rfl (fun _ => rfl) rfl ?_
    refine gxo_ref (a := 144) (c := 145) rfl g0 rfl rfl rfl rfl rfl ?_
    refine ex_go (S := (70, [(4, .inl 0), (3, .inl r), (0, gx_r 144), (1, gx_r 212), (2, .inl M)], [.inl r, gx_r 145], t0, n, 0)) rfl (fun _ => rfl) rfl ?_
    refine ex_go (S := (72, [(4, .inl 0), (3, .inl r), (0, gx_r 144), (1, gx_r 212), (2, .inl M)], [.inl 0, .inl r, gx_r 145], t0, n, 0)) rfl (fun _ => rfl) rfl ?_
    refine ex_go (S := (73, [(4, .inl 0), (3, .inl r), (0, gx_r 144), (1, gx_r 212), (2, .inl M)], [.inl 0, .inl 0, .inl r, gx_r 145], t0, n, 0)) rfl (fun _ => rfl) rfl ?_
    obtain ⟨_, r1, rfl⟩ := pc_gapIndex (d + 4) n (t0 := t0) (g := r) (w := 0) (e := 0) (by first | decide | omega)
    refine ex_stat rfl rfl rfl rfl rfl r1 (Nat.le_refl _) rfl ?_
    show en_ex _ _ _ _ (76, [(4, .inl 0), (3, .inl r), (0, gx_r 144), (1, gx_r 212), (2, .inl M)], [.inl (((r * 4) + 0) * 41 + 0), gx_r 145], t0, n, 0) _
    refine ex_go (S := (77, [(4, .inl 0), (3, .inl r), (0, gx_r 144), (1, gx_r 212), (2, .inl M)], [.inl 0, .inl (((r * 4) + 0) * 41 + 0), gx_r 145], t0, n, 0)) rfl (fun _ => rfl) rfl ?_
    refine gx_ap rfl (fun _ => rfl) g0 rfl rfl rfl (show ((r * 4) + 0) * 41 + 0 < 984 from by omega) (gx_run1 (show ((r * 4) + 0) * 41 + 0 < 984 from by omega)) (gx_full (by first | decide | omega)) rfl (fun t102 g102 k102 e102 => ?_)
    refine ex_go (S := (81, [(4, .inl 1), (3, .inl r), (0, gx_r 144), (1, gx_r 212), (2, .inl M)], [], t102, n, 0)) rfl (fun _ => rfl) rfl ?_
    refine ex_go (S := (59, [(4, .inl 1), (3, .inl r), (0, gx_r 144), (1, gx_r 212), (2, .inl M)], [], t102, n, 0)) rfl (fun _ => rfl) rfl ?_
    refine ex_go (S := (61, [(4, .inl 1), (3, .inl r), (0, gx_r 144), (1, gx_r 212), (2, .inl M)], [.inl 1], t102, n, 0)) rfl (fun _ => rfl) rfl ?_
    refine ex_go (S := (62, [(4, .inl 1), (3, .inl r), (0, gx_r 144), (1, gx_r 212), (2, .inl M)], [.inl 4, .inl 1], t102, n, 0)) rfl (fun _ => rfl) rfl ?_
    refine ex_go (S := (65, [(4, .inl 1), (3, .inl r), (0, gx_r 144), (1, gx_r 212), (2, .inl M)], [], t102, n, 0)) rfl (fun _ => rfl) rfl ?_
    refine ex_go (S := (66, [(4, .inl 1), (3, .inl r), (0, gx_r 144), (1, gx_r 212), (2, .inl M)], [gx_r 144], t102, n, 0)) rfl (fun _ => rfl) rfl ?_
    refine gxo_ref (a := 144) (c := 145) rfl g102 rfl rfl rfl rfl rfl ?_
    refine ex_go (S := (70, [(4, .inl 1), (3, .inl r), (0, gx_r 144), (1, gx_r 212), (2, .inl M)], [.inl r, gx_r 145], t102, n, 0)) rfl (fun _ => rfl) rfl ?_
    refine ex_go (S := (72, [(4, .inl 1), (3, .inl r), (0, gx_r 144), (1, gx_r 212), (2, .inl M)], [.inl 1, .inl r, gx_r 145], t102, n, 0)) rfl (fun _ => rfl) rfl ?_
    refine ex_go (S := (73, [(4, .inl 1), (3, .inl r), (0, gx_r 144), (1, gx_r 212), (2, .inl M)], [.inl 0, .inl 1, .inl r, gx_r 145], t102, n, 0)) rfl (fun _ => rfl) rfl ?_
    obtain ⟨_, r3, rfl⟩ := pc_gapIndex (d + 4) n (t0 := t102) (g := r) (w := 1) (e := 0) (by first | decide | omega)
    refine ex_stat rfl rfl rfl rfl rfl r3 (Nat.le_refl _) rfl ?_
    show en_ex _ _ _ _ (76, [(4, .inl 1), (3, .inl r), (0, gx_r 144), (1, gx_r 212), (2, .inl M)], [.inl (((r * 4) + 1) * 41 + 0), gx_r 145], t102, n, 0) _
    refine ex_go (S := (77, [(4, .inl 1), (3, .inl r), (0, gx_r 144), (1, gx_r 212), (2, .inl M)], [.inl 0, .inl (((r * 4) + 1) * 41 + 0), gx_r 145], t102, n, 0)) rfl (fun _ => rfl) rfl ?_
    refine gx_ap rfl (fun _ => rfl) g102 rfl rfl rfl (show ((r * 4) + 1) * 41 + 0 < 984 from by omega) (gx_run1 (show ((r * 4) + 1) * 41 + 0 < 984 from by omega)) (gx_full (by first | decide | omega)) rfl (fun t104 g104 k104 e104 => ?_)
    have k5 : ai_hv t104 145 (((r * 4) + 0) * 41 + 0) = some (.inl 0) := (e104 145 (((r * 4) + 0) * 41 + 0) (by first | decide | omega)).trans k102
    refine ex_go (S := (81, [(4, .inl 2), (3, .inl r), (0, gx_r 144), (1, gx_r 212), (2, .inl M)], [], t104, n, 0)) rfl (fun _ => rfl) rfl ?_
    refine ex_go (S := (59, [(4, .inl 2), (3, .inl r), (0, gx_r 144), (1, gx_r 212), (2, .inl M)], [], t104, n, 0)) rfl (fun _ => rfl) rfl ?_
    refine ex_go (S := (61, [(4, .inl 2), (3, .inl r), (0, gx_r 144), (1, gx_r 212), (2, .inl M)], [.inl 2], t104, n, 0)) rfl (fun _ => rfl) rfl ?_
    refine ex_go (S := (62, [(4, .inl 2), (3, .inl r), (0, gx_r 144), (1, gx_r 212), (2, .inl M)], [.inl 4, .inl 2], t104, n, 0)) rfl (fun _ => rfl) rfl ?_
    refine ex_go (S := (65, [(4, .inl 2), (3, .inl r), (0, gx_r 144), (1, gx_r 212), (2, .inl M)], [], t104, n, 0)) rfl (fun _ => rfl) rfl ?_
    refine ex_go (S := (66, [(4, .inl 2), (3, .inl r), (0, gx_r 144), (1, gx_r 212), (2, .inl M)], [gx_r 144], t104, n, 0)) rfl (fun _ => rfl) rfl ?_
    refine gxo_ref (a := 144) (c := 145) rfl g104 rfl rfl rfl rfl rfl ?_
    refine ex_go (S := (70, [(4, .inl 2), (3, .inl r), (0, gx_r 144), (1, gx_r 212), (2, .inl M)], [.inl r, gx_r 145], t104, n, 0)) rfl (fun _ => rfl) rfl ?_
    refine ex_go (S := (72, [(4, .inl 2), (3, .inl r), (0, gx_r 144), (1, gx_r 212), (2, .inl M)], [.inl 2, .inl r, gx_r 145], t104, n, 0)) rfl (fun _ => rfl) rfl ?_
    refine ex_go (S := (73, [(4, .inl 2), (3, .inl r), (0, gx_r 144), (1, gx_r 212), (2, .inl M)], [.inl 0, .inl 2, .inl r, gx_r 145], t104, n, 0)) rfl (fun _ => rfl) rfl ?_
    obtain ⟨_, r6, rfl⟩ := pc_gapIndex (d + 4) n (t0 := t104) (g := r) (w := 2) (e := 0) (by first | decide | omega)
    refine ex_stat rfl rfl rfl rfl rfl r6 (Nat.le_refl _) rfl ?_
    show en_ex _ _ _ _ (76, [(4, .inl 2), (3, .inl r), (0, gx_r 144), (1, gx_r 212), (2, .inl M)], [.inl (((r * 4) + 2) * 41 + 0), gx_r 145], t104, n, 0) _
    refine ex_go (S := (77, [(4, .inl 2), (3, .inl r), (0, gx_r 144), (1, gx_r 212), (2, .inl M)], [.inl 0, .inl (((r * 4) + 2) * 41 + 0), gx_r 145], t104, n, 0)) rfl (fun _ => rfl) rfl ?_
    refine gx_ap rfl (fun _ => rfl) g104 rfl rfl rfl (show ((r * 4) + 2) * 41 + 0 < 984 from by omega) (gx_run1 (show ((r * 4) + 2) * 41 + 0 < 984 from by omega)) (gx_full (by first | decide | omega)) rfl (fun t107 g107 k107 e107 => ?_)
    have k8 : ai_hv t107 145 (((r * 4) + 0) * 41 + 0) = some (.inl 0) := (e107 145 (((r * 4) + 0) * 41 + 0) (by first | decide | omega)).trans k5
    have k9 : ai_hv t107 145 (((r * 4) + 1) * 41 + 0) = some (.inl 0) := (e107 145 (((r * 4) + 1) * 41 + 0) (by first | decide | omega)).trans k104
    refine ex_go (S := (81, [(4, .inl 3), (3, .inl r), (0, gx_r 144), (1, gx_r 212), (2, .inl M)], [], t107, n, 0)) rfl (fun _ => rfl) rfl ?_
    refine ex_go (S := (59, [(4, .inl 3), (3, .inl r), (0, gx_r 144), (1, gx_r 212), (2, .inl M)], [], t107, n, 0)) rfl (fun _ => rfl) rfl ?_
    refine ex_go (S := (61, [(4, .inl 3), (3, .inl r), (0, gx_r 144), (1, gx_r 212), (2, .inl M)], [.inl 3], t107, n, 0)) rfl (fun _ => rfl) rfl ?_
    refine ex_go (S := (62, [(4, .inl 3), (3, .inl r), (0, gx_r 144), (1, gx_r 212), (2, .inl M)], [.inl 4, .inl 3], t107, n, 0)) rfl (fun _ => rfl) rfl ?_
    refine ex_go (S := (65, [(4, .inl 3), (3, .inl r), (0, gx_r 144), (1, gx_r 212), (2, .inl M)], [], t107, n, 0)) rfl (fun _ => rfl) rfl ?_
    refine ex_go (S := (66, [(4, .inl 3), (3, .inl r), (0, gx_r 144), (1, gx_r 212), (2, .inl M)], [gx_r 144], t107, n, 0)) rfl (fun _ => rfl) rfl ?_
    refine gxo_ref (a := 144) (c := 145) rfl g107 rfl rfl rfl rfl rfl ?_
    refine ex_go (S := (70, [(4, .inl 3), (3, .inl r), (0, gx_r 144), (1, gx_r 212), (2, .inl M)], [.inl r, gx_r 145], t107, n, 0)) rfl (fun _ => rfl) rfl ?_
    refine ex_go (S := (72, [(4, .inl 3), (3, .inl r), (0, gx_r 144), (1, gx_r 212), (2, .inl M)], [.inl 3, .inl r, gx_r 145], t107, n, 0)) rfl (fun _ => rfl) rfl ?_
    refine ex_go (S := (73, [(4, .inl 3), (3, .inl r), (0, gx_r 144), (1, gx_r 212), (2, .inl M)], [.inl 0, .inl 3, .inl r, gx_r 145], t107, n, 0)) rfl (fun _ => rfl) rfl ?_
    obtain ⟨_, r10, rfl⟩ := pc_gapIndex (d + 4) n (t0 := t107) (g := r) (w := 3) (e := 0) (by first | decide | omega)
    refine ex_stat rfl rfl rfl rfl rfl r10 (Nat.le_refl _) rfl ?_
    show en_ex _ _ _ _ (76, [(4, .inl 3), (3, .inl r), (0, gx_r 144), (1, gx_r 212), (2, .inl M)], [.inl (((r * 4) + 3) * 41 + 0), gx_r 145], t107, n, 0) _
    refine ex_go (S := (77, [(4, .inl 3), (3, .inl r), (0, gx_r 144), (1, gx_r 212), (2, .inl M)], [.inl 0, .inl (((r * 4) + 3) * 41 + 0), gx_r 145], t107, n, 0)) rfl (fun _ => rfl) rfl ?_
    refine gx_ap rfl (fun _ => rfl) g107 rfl rfl rfl (show ((r * 4) + 3) * 41 + 0 < 984 from by omega) (gx_run1 (show ((r * 4) + 3) * 41 + 0 < 984 from by omega)) (gx_full (by first | decide | omega)) rfl (fun t111 g111 k111 e111 => ?_)
    have k12 : ai_hv t111 145 (((r * 4) + 0) * 41 + 0) = some (.inl 0) := (e111 145 (((r * 4) + 0) * 41 + 0) (by first | decide | omega)).trans k8
    have k13 : ai_hv t111 145 (((r * 4) + 1) * 41 + 0) = some (.inl 0) := (e111 145 (((r * 4) + 1) * 41 + 0) (by first | decide | omega)).trans k9
    have k14 : ai_hv t111 145 (((r * 4) + 2) * 41 + 0) = some (.inl 0) := (e111 145 (((r * 4) + 2) * 41 + 0) (by first | decide | omega)).trans k107
    refine ex_go (S := (81, [(4, .inl 4), (3, .inl r), (0, gx_r 144), (1, gx_r 212), (2, .inl M)], [], t111, n, 0)) rfl (fun _ => rfl) rfl ?_
    refine ex_go (S := (59, [(4, .inl 4), (3, .inl r), (0, gx_r 144), (1, gx_r 212), (2, .inl M)], [], t111, n, 0)) rfl (fun _ => rfl) rfl ?_
    refine ex_go (S := (61, [(4, .inl 4), (3, .inl r), (0, gx_r 144), (1, gx_r 212), (2, .inl M)], [.inl 4], t111, n, 0)) rfl (fun _ => rfl) rfl ?_
    refine ex_go (S := (62, [(4, .inl 4), (3, .inl r), (0, gx_r 144), (1, gx_r 212), (2, .inl M)], [.inl 4, .inl 4], t111, n, 0)) rfl (fun _ => rfl) rfl ?_
    refine ex_go (S := (84, [(4, .inl 4), (3, .inl r), (0, gx_r 144), (1, gx_r 212), (2, .inl M)], [], t111, n, 0)) rfl (fun _ => rfl) rfl ?_
    refine ex_go (S := (85, [(4, .inl 4), (3, .inl r), (0, gx_r 144), (1, gx_r 212), (2, .inl M)], [.inl 1], t111, n, 0)) rfl (fun _ => rfl) rfl ?_
    refine ex_go (S := (87, [(4, .inl 1), (3, .inl r), (0, gx_r 144), (1, gx_r 212), (2, .inl M)], [], t111, n, 0)) rfl (fun _ => rfl) rfl ?_
    refine gp_B212 d n (tb := t111) (M := M) (g := r) (o := O r) (q := N r) (nx := fun e => gR O N K (K - (r + 1)) e 3) (by first | decide | omega) hM (((e111 214 r (by first | decide | omega)).trans ((e107 214 r (by first | decide | omega)).trans ((e104 214 r (by first | decide | omega)).trans ((e102 214 r (by first | decide | omega)).trans (i0.2 _ _ (by first | decide | omega)))))).trans (kO r (by first | decide | omega))) (hO r (by first | decide | omega)) (((e111 215 r (by first | decide | omega)).trans ((e107 215 r (by first | decide | omega)).trans ((e104 215 r (by first | decide | omega)).trans ((e102 215 r (by first | decide | omega)).trans (i0.2 _ _ (by first | decide | omega)))))).trans (kN r (by first | decide | omega))) (hN r (by first | decide | omega)) (fun e he => ((e111 145 _ (by first | decide | omega)).trans ((e107 145 _ (by first | decide | omega)).trans ((e104 145 _ (by first | decide | omega)).trans (e102 145 _ (by first | decide | omega))))).trans (i0.1 (r + 1) (by first | decide | omega) (by first | decide | omega) e he 3 (by first | decide | omega))) (fun e => gR_le hO _ (by first | decide | omega) e 3) (fun t115 g115 i115 => ?_) M 1 _ (by first | decide | omega) (by first | decide | omega) g111 ⟨fun e he w hw => ?_, fun _ _ _ => rfl⟩
    · refine gx_iincz (i := 3) rfl (fun _ => rfl) (by first | decide | omega) rfl ?_
      show en_ex _ _ _ _ (110, [(3, .inl (gz r)), (4, .inl (M + 1)), (0, gx_r 144), (1, gx_r 212), (2, .inl M)], [], t115, n, 0) _
      refine ex_go (S := (52, [(3, .inl (gz r)), (4, .inl (M + 1)), (0, gx_r 144), (1, gx_r 212), (2, .inl M)], [], t115, n, 0)) rfl (fun _ => rfl) rfl ?_
      refine ih t115 _ (by first | decide | omega) g115 ⟨fun g1 h1 h2 e he w hw => ?_, fun c i h => (i115.2 c i (by first | decide | omega)).trans (((e111 _ _ (by first | decide | omega)).trans ((e107 _ _ (by first | decide | omega)).trans ((e104 _ _ (by first | decide | omega)).trans (e102 _ _ (by first | decide | omega))))).trans (i0.2 c i h))⟩
      by_cases e9 : g1 = r
      · rw [e9, gR_succ (by first | decide | omega)]; exact i115.1 e (by first | decide | omega) w hw
      · exact (i115.2 145 _ (by first | decide | omega)).trans (((e111 _ _ (by first | decide | omega)).trans ((e107 _ _ (by first | decide | omega)).trans ((e104 _ _ (by first | decide | omega)).trans (e102 _ _ (by first | decide | omega))))).trans (i0.1 g1 (by first | decide | omega) h2 e he w hw))
    · have he : e = 0 := by omega
      subst he
      rcases (show w = 0 ∨ w = 1 ∨ w = 2 ∨ w = 3 by omega) with rfl | rfl | rfl | rfl
      · exact k12
      · exact k13
      · exact k14
      · exact k111
theorem pc_fillGaps212 (d n : Nat) {t0 : en_H} {K M : Nat} (g0 : ai_HG ah_G t0) (kK : ai_hv t0 212 5 = some (.inl K)) {O N : Nat → Nat} (hK : K ≤ 5) (hM : M ≤ 40) (kO : ∀ g, g < K → ai_hv t0 214 g = some (.inl (O g))) (hO : ∀ g, g < K → O g ≤ 10) (kN : ∀ g, g < K → ai_hv t0 215 g = some (.inl (N g))) (hN : ∀ g, g < K → N g ≤ 10) : ∃ r, en_u (d + 6) 144 [gx_r 144, gx_r 212, .inl M] t0 n = some r ∧ ∃ t', r = (none, t', n, 0) ∧ ai_HG ah_G t' ∧ (∀ g, 0 ≤ g → g ≤ K → ∀ e, e ≤ M → ∀ w, w ≤ 3 → ai_hv t' 145 (((g * 4) + w) * 41 + e) = some (.inl (gR O N K (K - g) e w))) ∧ (∀ c i, c ≠ 145 → ai_hv t' c i = ai_hv t0 c i) := by
  refine en_u_ex (d := d + 5) rfl ?_
  show en_ex _ _ _ _ (0, [(0, gx_r 144), (1, gx_r 212), (2, .inl M)], [], t0, n, 0) _
  refine ex_go (S := (1, [(0, gx_r 144), (1, gx_r 212), (2, .inl M)], [.inl 0], t0, n, 0)) rfl (fun _ => rfl) rfl ?_
  refine ex_go (S := (2, [(3, .inl 0), (0, gx_r 144), (1, gx_r 212), (2, .inl M)], [], t0, n, 0)) rfl (fun _ => rfl) rfl ?_
  refine ex_go (S := (3, [(3, .inl 0), (0, gx_r 144), (1, gx_r 212), (2, .inl M)], [.inl 0], t0, n, 0)) rfl (fun _ => rfl) rfl ?_
  refine ex_go (S := (4, [(3, .inl 0), (0, gx_r 144), (1, gx_r 212), (2, .inl M)], [.inl 4, .inl 0], t0, n, 0)) rfl (fun _ => rfl) rfl ?_
  refine ex_go (S := (7, [(3, .inl 0), (0, gx_r 144), (1, gx_r 212), (2, .inl M)], [], t0, n, 0)) rfl (fun _ => rfl) rfl ?_
  refine ex_go (S := (8, [(3, .inl 0), (0, gx_r 144), (1, gx_r 212), (2, .inl M)], [.inl 0], t0, n, 0)) rfl (fun _ => rfl) rfl ?_
  refine ex_go (S := (10, [(4, .inl 0), (3, .inl 0), (0, gx_r 144), (1, gx_r 212), (2, .inl M)], [], t0, n, 0)) rfl (fun _ => rfl) rfl ?_
  refine gp_A212 d n (tb := t0) (K := K) (M := M) (s := 0) hK hM (by first | decide | omega) (kK) (fun t101 g101 i101 => ?_) (M + 1) 0 _ (by first | decide | omega) g0 ⟨fun e he => absurd he (Nat.not_lt_zero e), fun _ _ _ => rfl⟩
  refine ex_go (S := (42, [(3, .inl 1), (4, .inl (M + 1)), (0, gx_r 144), (1, gx_r 212), (2, .inl M)], [], t101, n, 0)) rfl (fun _ => rfl) rfl ?_
  refine ex_go (S := (2, [(3, .inl 1), (4, .inl (M + 1)), (0, gx_r 144), (1, gx_r 212), (2, .inl M)], [], t101, n, 0)) rfl (fun _ => rfl) rfl ?_
  refine ex_go (S := (3, [(3, .inl 1), (4, .inl (M + 1)), (0, gx_r 144), (1, gx_r 212), (2, .inl M)], [.inl 1], t101, n, 0)) rfl (fun _ => rfl) rfl ?_
  refine ex_go (S := (4, [(3, .inl 1), (4, .inl (M + 1)), (0, gx_r 144), (1, gx_r 212), (2, .inl M)], [.inl 4, .inl 1], t101, n, 0)) rfl (fun _ => rfl) rfl ?_
  refine ex_go (S := (7, [(3, .inl 1), (4, .inl (M + 1)), (0, gx_r 144), (1, gx_r 212), (2, .inl M)], [], t101, n, 0)) rfl (fun _ => rfl) rfl ?_
  refine ex_go (S := (8, [(3, .inl 1), (4, .inl (M + 1)), (0, gx_r 144), (1, gx_r 212), (2, .inl M)], [.inl 0], t101, n, 0)) rfl (fun _ => rfl) rfl ?_
  refine ex_go (S := (10, [(4, .inl 0), (3, .inl 1), (0, gx_r 144), (1, gx_r 212), (2, .inl M)], [], t101, n, 0)) rfl (fun _ => rfl) rfl ?_
  refine gp_A212 d n (tb := t101) (K := K) (M := M) (s := 1) hK hM (by first | decide | omega) ((i101.2 212 5 (by first | decide | omega)).trans (kK)) (fun t102 g102 i102 => ?_) (M + 1) 0 _ (by first | decide | omega) g101 ⟨fun e he => absurd he (Nat.not_lt_zero e), fun _ _ _ => rfl⟩
  refine ex_go (S := (42, [(3, .inl 2), (4, .inl (M + 1)), (0, gx_r 144), (1, gx_r 212), (2, .inl M)], [], t102, n, 0)) rfl (fun _ => rfl) rfl ?_
  refine ex_go (S := (2, [(3, .inl 2), (4, .inl (M + 1)), (0, gx_r 144), (1, gx_r 212), (2, .inl M)], [], t102, n, 0)) rfl (fun _ => rfl) rfl ?_
  refine ex_go (S := (3, [(3, .inl 2), (4, .inl (M + 1)), (0, gx_r 144), (1, gx_r 212), (2, .inl M)], [.inl 2], t102, n, 0)) rfl (fun _ => rfl) rfl ?_
  refine ex_go (S := (4, [(3, .inl 2), (4, .inl (M + 1)), (0, gx_r 144), (1, gx_r 212), (2, .inl M)], [.inl 4, .inl 2], t102, n, 0)) rfl (fun _ => rfl) rfl ?_
  refine ex_go (S := (7, [(3, .inl 2), (4, .inl (M + 1)), (0, gx_r 144), (1, gx_r 212), (2, .inl M)], [], t102, n, 0)) rfl (fun _ => rfl) rfl ?_
  refine ex_go (S := (8, [(3, .inl 2), (4, .inl (M + 1)), (0, gx_r 144), (1, gx_r 212), (2, .inl M)], [.inl 0], t102, n, 0)) rfl (fun _ => rfl) rfl ?_
  refine ex_go (S := (10, [(4, .inl 0), (3, .inl 2), (0, gx_r 144), (1, gx_r 212), (2, .inl M)], [], t102, n, 0)) rfl (fun _ => rfl) rfl ?_
  refine gp_A212 d n (tb := t102) (K := K) (M := M) (s := 2) hK hM (by first | decide | omega) ((i102.2 212 5 (by first | decide | omega)).trans ((i101.2 212 5 (by first | decide | omega)).trans (kK))) (fun t103 g103 i103 => ?_) (M + 1) 0 _ (by first | decide | omega) g102 ⟨fun e he => absurd he (Nat.not_lt_zero e), fun _ _ _ => rfl⟩
  refine ex_go (S := (42, [(3, .inl 3), (4, .inl (M + 1)), (0, gx_r 144), (1, gx_r 212), (2, .inl M)], [], t103, n, 0)) rfl (fun _ => rfl) rfl ?_
  refine ex_go (S := (2, [(3, .inl 3), (4, .inl (M + 1)), (0, gx_r 144), (1, gx_r 212), (2, .inl M)], [], t103, n, 0)) rfl (fun _ => rfl) rfl ?_
  refine ex_go (S := (3, [(3, .inl 3), (4, .inl (M + 1)), (0, gx_r 144), (1, gx_r 212), (2, .inl M)], [.inl 3], t103, n, 0)) rfl (fun _ => rfl) rfl ?_
  refine ex_go (S := (4, [(3, .inl 3), (4, .inl (M + 1)), (0, gx_r 144), (1, gx_r 212), (2, .inl M)], [.inl 4, .inl 3], t103, n, 0)) rfl (fun _ => rfl) rfl ?_
  refine ex_go (S := (7, [(3, .inl 3), (4, .inl (M + 1)), (0, gx_r 144), (1, gx_r 212), (2, .inl M)], [], t103, n, 0)) rfl (fun _ => rfl) rfl ?_
  refine ex_go (S := (8, [(3, .inl 3), (4, .inl (M + 1)), (0, gx_r 144), (1, gx_r 212), (2, .inl M)], [.inl 0], t103, n, 0)) rfl (fun _ => rfl) rfl ?_
  refine ex_go (S := (10, [(4, .inl 0), (3, .inl 3), (0, gx_r 144), (1, gx_r 212), (2, .inl M)], [], t103, n, 0)) rfl (fun _ => rfl) rfl ?_
  refine gp_A212 d n (tb := t103) (K := K) (M := M) (s := 3) hK hM (by first | decide | omega) ((i103.2 212 5 (by first | decide | omega)).trans ((i102.2 212 5 (by first | decide | omega)).trans ((i101.2 212 5 (by first | decide | omega)).trans (kK)))) (fun t104 g104 i104 => ?_) (M + 1) 0 _ (by first | decide | omega) g103 ⟨fun e he => absurd he (Nat.not_lt_zero e), fun _ _ _ => rfl⟩
  refine ex_go (S := (42, [(3, .inl 4), (4, .inl (M + 1)), (0, gx_r 144), (1, gx_r 212), (2, .inl M)], [], t104, n, 0)) rfl (fun _ => rfl) rfl ?_
  refine ex_go (S := (2, [(3, .inl 4), (4, .inl (M + 1)), (0, gx_r 144), (1, gx_r 212), (2, .inl M)], [], t104, n, 0)) rfl (fun _ => rfl) rfl ?_
  refine ex_go (S := (3, [(3, .inl 4), (4, .inl (M + 1)), (0, gx_r 144), (1, gx_r 212), (2, .inl M)], [.inl 4], t104, n, 0)) rfl (fun _ => rfl) rfl ?_
  refine ex_go (S := (4, [(3, .inl 4), (4, .inl (M + 1)), (0, gx_r 144), (1, gx_r 212), (2, .inl M)], [.inl 4, .inl 4], t104, n, 0)) rfl (fun _ => rfl) rfl ?_
  refine ex_go (S := (45, [(3, .inl 4), (4, .inl (M + 1)), (0, gx_r 144), (1, gx_r 212), (2, .inl M)], [], t104, n, 0)) rfl (fun _ => rfl) rfl ?_
  refine ex_go (S := (46, [(3, .inl 4), (4, .inl (M + 1)), (0, gx_r 144), (1, gx_r 212), (2, .inl M)], [gx_r 212], t104, n, 0)) rfl (fun _ => rfl) rfl ?_
  refine gxo_get (a := 212) rfl g104 rfl rfl ((i104.2 212 5 (by first | decide | omega)).trans ((i103.2 212 5 (by first | decide | omega)).trans ((i102.2 212 5 (by first | decide | omega)).trans ((i101.2 212 5 (by first | decide | omega)).trans (kK))))) rfl ?_
  refine ex_go (S := (50, [(3, .inl 4), (4, .inl (M + 1)), (0, gx_r 144), (1, gx_r 212), (2, .inl M)], [.inl 1, .inl K], t104, n, 0)) rfl (fun _ => rfl) rfl ?_
  refine gx_isubz rfl (by first | decide | omega) rfl ?_
  refine ex_go (S := (52, [(3, .inl (gz K)), (4, .inl (M + 1)), (0, gx_r 144), (1, gx_r 212), (2, .inl M)], [], t104, n, 0)) rfl (fun _ => rfl) rfl ?_
  refine gp_C212 d n (tb := t0) (K := K) (M := M) hK hM kO hO kN hN (fun t105 c105 g105 i105 => ?_) K _ _ (Nat.le_refl _) g104 ⟨fun g h1 h2 e he w hw => ?_, fun c i h => (i104.2 c i (by first | decide | omega)).trans ((i103.2 c i (by first | decide | omega)).trans ((i102.2 c i (by first | decide | omega)).trans (i101.2 c i (by first | decide | omega))))⟩
  · refine ex_ret (r := (none, t105, n, 0)) rfl (fun _ => rfl) ?_
    exact ⟨_, rfl, t105, rfl, g105, i105⟩
  · have h3 : g = K := by omega
    subst h3
    rw [Nat.sub_self]
    show _ = some (Sum.inl 1000000)
    rcases (show w = 0 ∨ w = 1 ∨ w = 2 ∨ w = 3 by omega) with rfl | rfl | rfl | rfl
    · exact (i104.2 145 _ (by first | decide | omega)).trans ((i103.2 145 _ (by first | decide | omega)).trans ((i102.2 145 _ (by first | decide | omega)).trans (i101.1 e (by first | decide | omega))))
    · exact (i104.2 145 _ (by first | decide | omega)).trans ((i103.2 145 _ (by first | decide | omega)).trans (i102.1 e (by first | decide | omega)))
    · exact (i104.2 145 _ (by first | decide | omega)).trans (i103.1 e (by first | decide | omega))
    · exact i104.1 e (by first | decide | omega)
theorem pc_through191 (d n : Nat) {t0 : en_H} {g e K : Nat} (g0 : ai_HG ah_G t0) (hg : g < 4294967296) (he : e < 4294967296) (kq : ai_hv t0 0 10 = some (gx_r 191)) (kK : ai_hv t0 212 5 = some (.inl K)) {O N : Nat → Nat} (hK : K ≤ 5) (kO : ∀ g, g < K → ai_hv t0 214 g = some (.inl (O g))) (hO : ∀ g, g < K → O g ≤ 10) (kN : ∀ g, g < K → ai_hv t0 215 g = some (.inl (N g))) (hN : ∀ g, g < K → N g ≤ 10) : ∃ r, en_u (d + 7) 71 [gx_r 0, .inl g, .inl e] t0 n = some r ∧ ∃ v t', r = (some (.inl v), t', n, 0) ∧ (∀ c i, c ≠ 145 → ai_hv t' c i = ai_hv t0 c i) ∧ ((g ≤ K ∧ e ≤ 40 → v = gR O N K (K - g) e 3) ∧ (¬ (g ≤ K ∧ e ≤ 40) → v = 4294967295)) := by
  refine en_u_ex (d := d + 6) rfl ?_
  show en_ex _ _ _ _ (0, [(0, gx_r 0), (1, .inl g), (2, .inl e)], [], t0, n, 0) _
  refine ex_go (S := (1, [(0, gx_r 0), (1, .inl g), (2, .inl e)], [.inl g], t0, n, 0)) rfl (fun _ => rfl) rfl ?_
  refine ex_go (S := (2, [(0, gx_r 0), (1, .inl g), (2, .inl e)], [.inl 0, .inl g], t0, n, 0)) rfl (fun _ => rfl) rfl ?_
  refine ex_go (S := (3, [(0, gx_r 0), (1, .inl g), (2, .inl e)], [gx_r 0, .inl 0, .inl g], t0, n, 0)) rfl (fun _ => rfl) rfl ?_
  refine gxo_get (a := 0) rfl g0 rfl rfl kq rfl ?_
  refine gxo_ref (a := 191) (c := 212) rfl g0 rfl rfl rfl rfl rfl ?_
  refine gxo_get (a := 212) rfl g0 rfl rfl kK rfl ?_
  obtain ⟨_, r1, b2, rfl, b2b, q3⟩ := pz_isWithin (d + 5) n (t0 := t0) (x := g) (lo := 0) (hi := K) (by first | decide | omega) (by first | decide | omega) (by first | decide | omega)
  refine ex_stat rfl rfl rfl rfl rfl r1 (Nat.le_refl _) rfl ?_
  show en_ex _ _ _ _ (15, [(0, gx_r 0), (1, .inl g), (2, .inl e)], [.inl b2], t0, n, 0) _
  by_cases hc4 : b2 = 0
  · refine gx_1t (c := .eq) rfl (by first | decide | omega) hc4 rfl ?_
    refine ex_go (S := (29, [(0, gx_r 0), (1, .inl g), (2, .inl e)], [.inl 4294967295], t0, n, 0)) rfl (fun _ => rfl) rfl ?_
    refine ex_ret (r := (some (.inl 4294967295), t0, n, 0)) rfl (fun _ => rfl) ?_
    exact ⟨_, rfl, _, t0, rfl, (fun c i h => rfl), fun h => absurd h (by first | decide | omega), fun _ => rfl⟩
  · refine gx_1f (c := .eq) rfl (by first | decide | omega) hc4 rfl ?_
    refine ex_go (S := (19, [(0, gx_r 0), (1, .inl g), (2, .inl e)], [.inl e], t0, n, 0)) rfl (fun _ => rfl) rfl ?_
    refine ex_go (S := (20, [(0, gx_r 0), (1, .inl g), (2, .inl e)], [.inl 0, .inl e], t0, n, 0)) rfl (fun _ => rfl) rfl ?_
    refine ex_go (S := (22, [(0, gx_r 0), (1, .inl g), (2, .inl e)], [.inl 40, .inl 0, .inl e], t0, n, 0)) rfl (fun _ => rfl) rfl ?_
    obtain ⟨_, r5, b6, rfl, b6b, q7⟩ := pz_isWithin (d + 5) n (t0 := t0) (x := e) (lo := 0) (hi := 40) (by first | decide | omega) (by first | decide | omega) (by first | decide | omega)
    refine ex_stat rfl rfl rfl rfl rfl r5 (Nat.le_refl _) rfl ?_
    show en_ex _ _ _ _ (25, [(0, gx_r 0), (1, .inl g), (2, .inl e)], [.inl b6], t0, n, 0) _
    by_cases hc8 : b6 ≠ 0
    · refine gx_1t (c := .ne) rfl (by first | decide | omega) hc8 rfl ?_
      refine ex_go (S := (31, [(0, gx_r 0), (1, .inl g), (2, .inl e)], [gx_r 0], t0, n, 0)) rfl (fun _ => rfl) rfl ?_
      refine gxo_ref (a := 0) (c := 144) rfl g0 rfl rfl rfl rfl rfl ?_
      refine ex_go (S := (35, [(0, gx_r 0), (1, .inl g), (2, .inl e)], [gx_r 0, gx_r 144], t0, n, 0)) rfl (fun _ => rfl) rfl ?_
      refine gxo_get (a := 0) rfl g0 rfl rfl kq rfl ?_
      refine gxo_ref (a := 191) (c := 212) rfl g0 rfl rfl rfl rfl rfl ?_
      refine ex_go (S := (42, [(0, gx_r 0), (1, .inl g), (2, .inl e)], [.inl e, gx_r 212, gx_r 144], t0, n, 0)) rfl (fun _ => rfl) rfl ?_
      obtain ⟨_, r109, t109, rfl, g109, i109⟩ := pc_fillGaps212 d n (M := e) g0 kK hK (by first | decide | omega) kO hO kN hN
      refine gx_callo (a := 144) rfl rfl g0 rfl rfl rfl r109 rfl ?_
      have k10 : ai_hv t109 0 10 = some (gx_r 191) := (i109.2 0 10 (by first | decide | omega)).trans kq
      have k11 : ai_hv t109 212 5 = some (.inl K) := (i109.2 212 5 (by first | decide | omega)).trans kK
      show en_ex _ _ _ _ (45, [(0, gx_r 0), (1, .inl g), (2, .inl e)], [], t109, n, 0) _
      refine ex_go (S := (46, [(0, gx_r 0), (1, .inl g), (2, .inl e)], [gx_r 0], t109, n, 0)) rfl (fun _ => rfl) rfl ?_
      refine gxo_ref (a := 0) (c := 144) rfl g109 rfl rfl rfl rfl rfl ?_
      refine ex_go (S := (50, [(0, gx_r 0), (1, .inl g), (2, .inl e)], [.inl g, gx_r 144], t109, n, 0)) rfl (fun _ => rfl) rfl ?_
      refine ex_go (S := (51, [(0, gx_r 0), (1, .inl g), (2, .inl e)], [.inl 3, .inl g, gx_r 144], t109, n, 0)) rfl (fun _ => rfl) rfl ?_
      refine ex_go (S := (52, [(0, gx_r 0), (1, .inl g), (2, .inl e)], [.inl e, .inl 3, .inl g, gx_r 144], t109, n, 0)) rfl (fun _ => rfl) rfl ?_
      obtain ⟨_, r12, rfl⟩ := pc_gapChance (d + 4) n (g := g) (w := 3) (e := e) (v := gR O N K (K - g) e 3) g109 (by first | decide | omega) (i109.1 g (by first | decide | omega) (by first | decide | omega) e (by first | decide | omega) 3 (by first | decide | omega))
      refine gx_callo (a := 144) rfl rfl g109 rfl rfl rfl r12 rfl ?_
      show en_ex _ _ _ _ (55, [(0, gx_r 0), (1, .inl g), (2, .inl e)], [.inl (gR O N K (K - g) e 3)], t109, n, 0) _
      refine ex_ret (r := (some (.inl (gR O N K (K - g) e 3)), t109, n, 0)) rfl (fun _ => rfl) ?_
      exact ⟨_, rfl, _, t109, rfl, (fun c i h => i109.2 c i (by first | decide | omega)), fun _ => rfl, fun h => absurd h (by first | decide | omega)⟩
    · refine gx_1f (c := .ne) rfl (by first | decide | omega) hc8 rfl ?_
      refine ex_go (S := (29, [(0, gx_r 0), (1, .inl g), (2, .inl e)], [.inl 4294967295], t0, n, 0)) rfl (fun _ => rfl) rfl ?_
      refine ex_ret (r := (some (.inl 4294967295), t0, n, 0)) rfl (fun _ => rfl) ?_
      exact ⟨_, rfl, _, t0, rfl, (fun c i h => rfl), fun h => absurd h (by first | decide | omega), fun _ => rfl⟩
theorem pc_now191 (d n : Nat) {t0 : en_H} {g x e K : Nat} (g0 : ai_HG ah_G t0) (hg : g < 4294967296) (hx : x < 4294967296) (he : e < 4294967296) (kq : ai_hv t0 0 10 = some (gx_r 191)) (kK : ai_hv t0 212 5 = some (.inl K)) {O N : Nat → Nat} (hK : K ≤ 5) (kO : ∀ g, g < K → ai_hv t0 214 g = some (.inl (O g))) (hO : ∀ g, g < K → O g ≤ 10) (kN : ∀ g, g < K → ai_hv t0 215 g = some (.inl (N g))) (hN : ∀ g, g < K → N g ≤ 10) : ∃ r, en_u (d + 7) 73 [gx_r 0, .inl g, .inl x, .inl e] t0 n = some r ∧ ∃ v t', r = (some (.inl v), t', n, 0) ∧ (∀ c i, c ≠ 145 → ai_hv t' c i = ai_hv t0 c i) ∧ ((g < K ∧ x ≤ 2 ∧ e ≤ 40 → v = if gR O N K (K - g) e x ≤ gG (N g) x (gR O N K (K - (g + 1)) e 3) then 1 else 0) ∧ (¬ (g < K ∧ x ≤ 2 ∧ e ≤ 40) → v = 4294967295)) := by
  refine en_u_ex (d := d + 6) rfl ?_
  show en_ex _ _ _ _ (0, [(0, gx_r 0), (1, .inl g), (2, .inl x), (3, .inl e)], [], t0, n, 0) _
  refine ex_go (S := (1, [(0, gx_r 0), (1, .inl g), (2, .inl x), (3, .inl e)], [gx_r 0], t0, n, 0)) rfl (fun _ => rfl) rfl ?_
  refine gxo_get (a := 0) rfl g0 rfl rfl kq rfl ?_
  refine gxo_ref (a := 191) (c := 212) rfl g0 rfl rfl rfl rfl rfl ?_
  refine ex_go (S := (8, [(0, gx_r 0), (1, .inl g), (2, .inl x), (3, .inl e)], [.inl g, gx_r 212], t0, n, 0)) rfl (fun _ => rfl) rfl ?_
  obtain ⟨_, r1, b2, rfl, b2b, q3⟩ := pz_holds212 (d + 5) n (x := g) g0 (by first | decide | omega) kK (by first | decide | omega)
  refine gx_callo (a := 212) rfl rfl g0 rfl rfl rfl r1 rfl ?_
  show en_ex _ _ _ _ (11, [(0, gx_r 0), (1, .inl g), (2, .inl x), (3, .inl e)], [.inl b2], t0, n, 0) _
  by_cases hc4 : b2 = 0
  · refine gx_1t (c := .eq) rfl (by first | decide | omega) hc4 rfl ?_
    refine ex_go (S := (34, [(0, gx_r 0), (1, .inl g), (2, .inl x), (3, .inl e)], [.inl 4294967295], t0, n, 0)) rfl (fun _ => rfl) rfl ?_
    refine ex_ret (r := (some (.inl 4294967295), t0, n, 0)) rfl (fun _ => rfl) ?_
    exact ⟨_, rfl, _, t0, rfl, (fun c i h => rfl), fun h => absurd h (by first | decide | omega), fun _ => rfl⟩
  · refine gx_1f (c := .eq) rfl (by first | decide | omega) hc4 rfl ?_
    refine ex_go (S := (15, [(0, gx_r 0), (1, .inl g), (2, .inl x), (3, .inl e)], [.inl x], t0, n, 0)) rfl (fun _ => rfl) rfl ?_
    refine ex_go (S := (16, [(0, gx_r 0), (1, .inl g), (2, .inl x), (3, .inl e)], [.inl 0, .inl x], t0, n, 0)) rfl (fun _ => rfl) rfl ?_
    refine ex_go (S := (17, [(0, gx_r 0), (1, .inl g), (2, .inl x), (3, .inl e)], [.inl 2, .inl 0, .inl x], t0, n, 0)) rfl (fun _ => rfl) rfl ?_
    obtain ⟨_, r5, b6, rfl, b6b, q7⟩ := pz_isWithin (d + 5) n (t0 := t0) (x := x) (lo := 0) (hi := 2) (by first | decide | omega) (by first | decide | omega) (by first | decide | omega)
    refine ex_stat rfl rfl rfl rfl rfl r5 (Nat.le_refl _) rfl ?_
    show en_ex _ _ _ _ (20, [(0, gx_r 0), (1, .inl g), (2, .inl x), (3, .inl e)], [.inl b6], t0, n, 0) _
    by_cases hc8 : b6 = 0
    · refine gx_1t (c := .eq) rfl (by first | decide | omega) hc8 rfl ?_
      refine ex_go (S := (34, [(0, gx_r 0), (1, .inl g), (2, .inl x), (3, .inl e)], [.inl 4294967295], t0, n, 0)) rfl (fun _ => rfl) rfl ?_
      refine ex_ret (r := (some (.inl 4294967295), t0, n, 0)) rfl (fun _ => rfl) ?_
      exact ⟨_, rfl, _, t0, rfl, (fun c i h => rfl), fun h => absurd h (by first | decide | omega), fun _ => rfl⟩
    · refine gx_1f (c := .eq) rfl (by first | decide | omega) hc8 rfl ?_
      refine ex_go (S := (24, [(0, gx_r 0), (1, .inl g), (2, .inl x), (3, .inl e)], [.inl e], t0, n, 0)) rfl (fun _ => rfl) rfl ?_
      refine ex_go (S := (25, [(0, gx_r 0), (1, .inl g), (2, .inl x), (3, .inl e)], [.inl 0, .inl e], t0, n, 0)) rfl (fun _ => rfl) rfl ?_
      refine ex_go (S := (27, [(0, gx_r 0), (1, .inl g), (2, .inl x), (3, .inl e)], [.inl 40, .inl 0, .inl e], t0, n, 0)) rfl (fun _ => rfl) rfl ?_
      obtain ⟨_, r9, b10, rfl, b10b, q11⟩ := pz_isWithin (d + 5) n (t0 := t0) (x := e) (lo := 0) (hi := 40) (by first | decide | omega) (by first | decide | omega) (by first | decide | omega)
      refine ex_stat rfl rfl rfl rfl rfl r9 (Nat.le_refl _) rfl ?_
      show en_ex _ _ _ _ (30, [(0, gx_r 0), (1, .inl g), (2, .inl x), (3, .inl e)], [.inl b10], t0, n, 0) _
      by_cases hc12 : b10 ≠ 0
      · refine gx_1t (c := .ne) rfl (by first | decide | omega) hc12 rfl ?_
        refine ex_go (S := (36, [(0, gx_r 0), (1, .inl g), (2, .inl x), (3, .inl e)], [gx_r 0], t0, n, 0)) rfl (fun _ => rfl) rfl ?_
        refine gxo_ref (a := 0) (c := 144) rfl g0 rfl rfl rfl rfl rfl ?_
        refine ex_go (S := (40, [(0, gx_r 0), (1, .inl g), (2, .inl x), (3, .inl e)], [gx_r 0, gx_r 144], t0, n, 0)) rfl (fun _ => rfl) rfl ?_
        refine gxo_get (a := 0) rfl g0 rfl rfl kq rfl ?_
        refine gxo_ref (a := 191) (c := 212) rfl g0 rfl rfl rfl rfl rfl ?_
        refine ex_go (S := (47, [(0, gx_r 0), (1, .inl g), (2, .inl x), (3, .inl e)], [.inl e, gx_r 212, gx_r 144], t0, n, 0)) rfl (fun _ => rfl) rfl ?_
        obtain ⟨_, r113, t113, rfl, g113, i113⟩ := pc_fillGaps212 d n (M := e) g0 kK hK (by first | decide | omega) kO hO kN hN
        refine gx_callo (a := 144) rfl rfl g0 rfl rfl rfl r113 rfl ?_
        have k14 : ai_hv t113 0 10 = some (gx_r 191) := (i113.2 0 10 (by first | decide | omega)).trans kq
        have k15 : ai_hv t113 212 5 = some (.inl K) := (i113.2 212 5 (by first | decide | omega)).trans kK
        show en_ex _ _ _ _ (50, [(0, gx_r 0), (1, .inl g), (2, .inl x), (3, .inl e)], [], t113, n, 0) _
        refine ex_go (S := (51, [(0, gx_r 0), (1, .inl g), (2, .inl x), (3, .inl e)], [gx_r 0], t113, n, 0)) rfl (fun _ => rfl) rfl ?_
        refine gxo_ref (a := 0) (c := 144) rfl g113 rfl rfl rfl rfl rfl ?_
        refine ex_go (S := (55, [(0, gx_r 0), (1, .inl g), (2, .inl x), (3, .inl e)], [gx_r 0, gx_r 144], t113, n, 0)) rfl (fun _ => rfl) rfl ?_
        refine gxo_get (a := 0) rfl g113 rfl rfl k14 rfl ?_
        refine gxo_ref (a := 191) (c := 212) rfl g113 rfl rfl rfl rfl rfl ?_
        refine ex_go (S := (62, [(0, gx_r 0), (1, .inl g), (2, .inl x), (3, .inl e)], [.inl g, gx_r 212, gx_r 144], t113, n, 0)) rfl (fun _ => rfl) rfl ?_
        refine ex_go (S := (63, [(0, gx_r 0), (1, .inl g), (2, .inl x), (3, .inl e)], [.inl x, .inl g, gx_r 212, gx_r 144], t113, n, 0)) rfl (fun _ => rfl) rfl ?_
        refine ex_go (S := (64, [(0, gx_r 0), (1, .inl g), (2, .inl x), (3, .inl e)], [.inl e, .inl x, .inl g, gx_r 212, gx_r 144], t113, n, 0)) rfl (fun _ => rfl) rfl ?_
        have hbx := gR_le (Q := N) hO (K - (g + 1)) (by first | decide | omega) e 3
        have hby := gR_le (Q := N) hO (K - g) (by first | decide | omega) e x
        have hbz := gG_le (q := N g) (w := x) hbx
        obtain ⟨_, r16, rfl⟩ := pc_going212 (d + 3) n (g := g) (w := x) (e := e) g113 (by first | decide | omega) ((i113.2 _ _ (by decide)).trans (kN g (by first | decide | omega))) (hN g (by first | decide | omega)) (i113.1 (g + 1) (by first | decide | omega) (by first | decide | omega) e (by first | decide | omega) 3 (by first | decide | omega)) hbx
        refine gx_callo (a := 144) rfl rfl g113 rfl rfl rfl r16 rfl ?_
        show en_ex _ _ _ _ (67, [(0, gx_r 0), (1, .inl g), (2, .inl x), (3, .inl e)], [.inl (gG (N g) x (gR O N K (K - (g + 1)) e 3))], t113, n, 0) _
        refine ex_go (S := (69, [(4, .inl (gG (N g) x (gR O N K (K - (g + 1)) e 3))), (0, gx_r 0), (1, .inl g), (2, .inl x), (3, .inl e)], [], t113, n, 0)) rfl (fun _ => rfl) rfl ?_
        refine ex_go (S := (71, [(4, .inl (gG (N g) x (gR O N K (K - (g + 1)) e 3))), (0, gx_r 0), (1, .inl g), (2, .inl x), (3, .inl e)], [.inl (gG (N g) x (gR O N K (K - (g + 1)) e 3))], t113, n, 0)) rfl (fun _ => rfl) rfl ?_
        refine ex_go (S := (72, [(4, .inl (gG (N g) x (gR O N K (K - (g + 1)) e 3))), (0, gx_r 0), (1, .inl g), (2, .inl x), (3, .inl e)], [gx_r 0, .inl (gG (N g) x (gR O N K (K - (g + 1)) e 3))], t113, n, 0)) rfl (fun _ => rfl) rfl ?_
        refine gxo_ref (a := 0) (c := 144) rfl g113 rfl rfl rfl rfl rfl ?_
        refine ex_go (S := (76, [(4, .inl (gG (N g) x (gR O N K (K - (g + 1)) e 3))), (0, gx_r 0), (1, .inl g), (2, .inl x), (3, .inl e)], [.inl g, gx_r 144, .inl (gG (N g) x (gR O N K (K - (g + 1)) e 3))], t113, n, 0)) rfl (fun _ => rfl) rfl ?_
        refine ex_go (S := (77, [(4, .inl (gG (N g) x (gR O N K (K - (g + 1)) e 3))), (0, gx_r 0), (1, .inl g), (2, .inl x), (3, .inl e)], [.inl x, .inl g, gx_r 144, .inl (gG (N g) x (gR O N K (K - (g + 1)) e 3))], t113, n, 0)) rfl (fun _ => rfl) rfl ?_
        refine ex_go (S := (78, [(4, .inl (gG (N g) x (gR O N K (K - (g + 1)) e 3))), (0, gx_r 0), (1, .inl g), (2, .inl x), (3, .inl e)], [.inl e, .inl x, .inl g, gx_r 144, .inl (gG (N g) x (gR O N K (K - (g + 1)) e 3))], t113, n, 0)) rfl (fun _ => rfl) rfl ?_
        obtain ⟨_, r17, rfl⟩ := pc_gapChance (d + 4) n (g := g) (w := x) (e := e) (v := gR O N K (K - g) e x) g113 (by first | decide | omega) (i113.1 g (by first | decide | omega) (by first | decide | omega) e (by first | decide | omega) x (by first | decide | omega))
        refine gx_callo (a := 144) rfl rfl g113 rfl rfl rfl r17 rfl ?_
        show en_ex _ _ _ _ (81, [(4, .inl (gG (N g) x (gR O N K (K - (g + 1)) e 3))), (0, gx_r 0), (1, .inl g), (2, .inl x), (3, .inl e)], [.inl (gR O N K (K - g) e x), .inl (gG (N g) x (gR O N K (K - (g + 1)) e 3))], t113, n, 0) _
        by_cases hc18 : gG (N g) x (gR O N K (K - (g + 1)) e 3) < gR O N K (K - g) e x
        · refine gx_2t (c := .lt) rfl (by first | decide | omega) (by first | decide | omega) hc18 rfl ?_
          refine ex_go (S := (89, [(4, .inl (gG (N g) x (gR O N K (K - (g + 1)) e 3))), (0, gx_r 0), (1, .inl g), (2, .inl x), (3, .inl e)], [.inl 0], t113, n, 0)) rfl (fun _ => rfl) rfl ?_
          refine ex_ret (r := (some (.inl 0), t113, n, 0)) rfl (fun _ => rfl) ?_
          exact ⟨_, rfl, _, t113, rfl, (fun c i h => i113.2 c i (by first | decide | omega)), fun _ => by rw [if_neg (by first | decide | omega)], fun h => absurd h (by first | decide | omega)⟩
        · refine gx_2f (c := .lt) rfl (by first | decide | omega) (by first | decide | omega) hc18 rfl ?_
          refine ex_go (S := (85, [(4, .inl (gG (N g) x (gR O N K (K - (g + 1)) e 3))), (0, gx_r 0), (1, .inl g), (2, .inl x), (3, .inl e)], [.inl 1], t113, n, 0)) rfl (fun _ => rfl) rfl ?_
          refine ex_go (S := (89, [(4, .inl (gG (N g) x (gR O N K (K - (g + 1)) e 3))), (0, gx_r 0), (1, .inl g), (2, .inl x), (3, .inl e)], [.inl 1], t113, n, 0)) rfl (fun _ => rfl) rfl ?_
          refine ex_ret (r := (some (.inl 1), t113, n, 0)) rfl (fun _ => rfl) ?_
          exact ⟨_, rfl, _, t113, rfl, (fun c i h => i113.2 c i (by first | decide | omega)), fun _ => by rw [if_pos (by first | decide | omega)], fun h => absurd h (by first | decide | omega)⟩
      · refine gx_1f (c := .ne) rfl (by first | decide | omega) hc12 rfl ?_
        refine ex_go (S := (34, [(0, gx_r 0), (1, .inl g), (2, .inl x), (3, .inl e)], [.inl 4294967295], t0, n, 0)) rfl (fun _ => rfl) rfl ?_
        refine ex_ret (r := (some (.inl 4294967295), t0, n, 0)) rfl (fun _ => rfl) ?_
        exact ⟨_, rfl, _, t0, rfl, (fun c i h => rfl), fun h => absurd h (by first | decide | omega), fun _ => rfl⟩
theorem pz_holds278 (d n : Nat) {t0 : en_H} {x K : Nat} (g0 : ai_HG ah_G t0) (hx : x < 4294967296) (kK : ai_hv t0 278 5 = some (.inl K)) (hK : K ≤ 1000) : ∃ r, en_u (d + 1) 23 [gx_r 278, .inl x] t0 n = some r ∧ ∃ b, r = (some (.inl b), t0, n, 0) ∧ b ≤ 1 ∧ (b = 1 ↔ x < K) := by
  refine en_u_ex rfl ?_
  show en_ex _ _ _ _ (0, [(0, gx_r 278), (1, .inl x)], [], t0, n, 0) _
  by_cases hn : 2147483648 ≤ x
  · refine ex_go (S := (1, [(0, gx_r 278), (1, .inl x)], [.inl x], t0, n, 0)) rfl (fun _ => rfl) rfl ?_
    refine gx_negt (c := .lt) rfl (by first | decide | omega) (by first | decide | omega) rfl rfl ?_
    refine ex_go (S := (17, [(0, gx_r 278), (1, .inl x)], [.inl 0], t0, n, 0)) rfl (fun _ => rfl) rfl ?_
    refine ex_ret (r := (some (.inl 0), t0, n, 0)) rfl (fun _ => rfl) ?_
    exact ⟨_, rfl, 0, rfl, by omega, by omega⟩
  · refine ex_go (S := (1, [(0, gx_r 278), (1, .inl x)], [.inl x], t0, n, 0)) rfl (fun _ => rfl) rfl ?_
    by_cases hc1 : x < 0
    · refine gx_1t (c := .lt) rfl (by first | decide | omega) hc1 rfl ?_
      refine ex_go (S := (17, [(0, gx_r 278), (1, .inl x)], [.inl 0], t0, n, 0)) rfl (fun _ => rfl) rfl ?_
      refine ex_ret (r := (some (.inl 0), t0, n, 0)) rfl (fun _ => rfl) ?_
      exact ⟨_, rfl, 0, rfl, by omega, by omega⟩
    · refine gx_1f (c := .lt) rfl (by first | decide | omega) hc1 rfl ?_
      refine ex_go (S := (5, [(0, gx_r 278), (1, .inl x)], [.inl x], t0, n, 0)) rfl (fun _ => rfl) rfl ?_
      refine ex_go (S := (6, [(0, gx_r 278), (1, .inl x)], [gx_r 278, .inl x], t0, n, 0)) rfl (fun _ => rfl) rfl ?_
      refine gxo_get (a := 278) rfl g0 rfl rfl kK rfl ?_
      by_cases hc2 : K ≤ x
      · refine gx_2t (c := .ge) rfl (by first | decide | omega) (by first | decide | omega) hc2 rfl ?_
        refine ex_go (S := (17, [(0, gx_r 278), (1, .inl x)], [.inl 0], t0, n, 0)) rfl (fun _ => rfl) rfl ?_
        refine ex_ret (r := (some (.inl 0), t0, n, 0)) rfl (fun _ => rfl) ?_
        exact ⟨_, rfl, 0, rfl, by omega, by omega⟩
      · refine gx_2f (c := .ge) rfl (by first | decide | omega) (by first | decide | omega) hc2 rfl ?_
        refine ex_go (S := (13, [(0, gx_r 278), (1, .inl x)], [.inl 1], t0, n, 0)) rfl (fun _ => rfl) rfl ?_
        refine ex_go (S := (17, [(0, gx_r 278), (1, .inl x)], [.inl 1], t0, n, 0)) rfl (fun _ => rfl) rfl ?_
        refine ex_ret (r := (some (.inl 1), t0, n, 0)) rfl (fun _ => rfl) ?_
        exact ⟨_, rfl, 1, rfl, by omega, by omega⟩
theorem pc_going278 (d n : Nat) {t0 : en_H} {g w e q X : Nat} (g0 : ai_HG ah_G t0) (hb : g ≤ 4 ∧ w ≤ 2 ∧ e ≤ 40) (k1 : ai_hv t0 281 g = some (.inl q)) (hq : q ≤ 10) (k2 : ai_hv t0 145 ((((g + 1) * 4) + 3) * 41 + e) = some (.inl X)) (hX : X ≤ 1000000) : ∃ r, en_u (d + 3) 148 [gx_r 144, gx_r 278, .inl g, .inl w, .inl e] t0 n = some r ∧ r = (some (.inl (gG q w X)), t0, n, 0) := by
  refine en_u_ex (d := d + 2) rfl ?_
  show en_ex _ _ _ _ (0, [(0, gx_r 144), (1, gx_r 278), (2, .inl g), (3, .inl w), (4, .inl e)], [], t0, n, 0) _
  refine ex_go (S := (1, [(0, gx_r 144), (1, gx_r 278), (2, .inl g), (3, .inl w), (4, .inl e)], [.inl 0], t0, n, 0)) rfl (fun _ => rfl) rfl ?_
  refine ex_go (S := (2, [(0, gx_r 144), (1, gx_r 278), (2, .inl g), (3, .inl w), (4, .inl e)], [gx_r 278, .inl 0], t0, n, 0)) rfl (fun _ => rfl) rfl ?_
  refine gxo_ref (a := 278) (c := 281) rfl g0 rfl rfl rfl rfl rfl ?_
  refine ex_go (S := (6, [(0, gx_r 144), (1, gx_r 278), (2, .inl g), (3, .inl w), (4, .inl e)], [.inl g, gx_r 281, .inl 0], t0, n, 0)) rfl (fun _ => rfl) rfl ?_
  refine gx_ag (v := .inl q) (cb := fun c => Nat.beq c 0) rfl (fun _ => rfl) g0 rfl rfl k1 (by first | decide | omega) rfl ?_
  refine ex_go (S := (8, [(0, gx_r 144), (1, gx_r 278), (2, .inl g), (3, .inl w), (4, .inl e)], [.inl 2, .inl q, .inl 0], t0, n, 0)) rfl (fun _ => rfl) rfl ?_
  refine ex_go (S := (9, [(0, gx_r 144), (1, gx_r 278), (2, .inl g), (3, .inl w), (4, .inl e)], [.inl w, .inl 2, .inl q, .inl 0], t0, n, 0)) rfl (fun _ => rfl) rfl ?_
  refine gx_imul rfl (by first | decide | omega) rfl ?_
  rcases Nat.lt_or_ge q (2 * w) with hlt | hge
  · refine gx_isubn rfl (by first | decide | omega) (by first | decide | omega) rfl (fun z1 z1a z1b z1c => ?_)
    refine gx_imm (m := 0) rfl rfl (zk_maxn (by first | decide | omega) (by first | decide | omega)) rfl rfl ?_
    refine ex_go (S := (16, [(5, .inl 0), (0, gx_r 144), (1, gx_r 278), (2, .inl g), (3, .inl w), (4, .inl e)], [], t0, n, 0)) rfl (fun _ => rfl) rfl ?_
    refine ex_go (S := (18, [(5, .inl 0), (0, gx_r 144), (1, gx_r 278), (2, .inl g), (3, .inl w), (4, .inl e)], [.inl 10], t0, n, 0)) rfl (fun _ => rfl) rfl ?_
    refine ex_go (S := (20, [(5, .inl 0), (0, gx_r 144), (1, gx_r 278), (2, .inl g), (3, .inl w), (4, .inl e)], [.inl 0, .inl 10], t0, n, 0)) rfl (fun _ => rfl) rfl ?_
    refine ex_go (S := (21, [(5, .inl 0), (0, gx_r 144), (1, gx_r 278), (2, .inl g), (3, .inl w), (4, .inl e)], [.inl 10], t0, n, 0)) rfl (fun _ => rfl) rfl ?_
    refine ex_go (S := (22, [(5, .inl 0), (0, gx_r 144), (1, gx_r 278), (2, .inl g), (3, .inl w), (4, .inl e)], [gx_r 144, .inl 10], t0, n, 0)) rfl (fun _ => rfl) rfl ?_
    refine ex_go (S := (23, [(5, .inl 0), (0, gx_r 144), (1, gx_r 278), (2, .inl g), (3, .inl w), (4, .inl e)], [.inl g, gx_r 144, .inl 10], t0, n, 0)) rfl (fun _ => rfl) rfl ?_
    refine ex_go (S := (24, [(5, .inl 0), (0, gx_r 144), (1, gx_r 278), (2, .inl g), (3, .inl w), (4, .inl e)], [.inl 1, .inl g, gx_r 144, .inl 10], t0, n, 0)) rfl (fun _ => rfl) rfl ?_
    refine ex_iadd rfl (by first | decide | omega) rfl ?_
    refine ex_go (S := (26, [(5, .inl 0), (0, gx_r 144), (1, gx_r 278), (2, .inl g), (3, .inl w), (4, .inl e)], [.inl 3, .inl (g + 1), gx_r 144, .inl 10], t0, n, 0)) rfl (fun _ => rfl) rfl ?_
    refine ex_go (S := (28, [(5, .inl 0), (0, gx_r 144), (1, gx_r 278), (2, .inl g), (3, .inl w), (4, .inl e)], [.inl e, .inl 3, .inl (g + 1), gx_r 144, .inl 10], t0, n, 0)) rfl (fun _ => rfl) rfl ?_
    obtain ⟨_, r2, rfl⟩ := pc_gapChance (d) n (g := g + 1) (w := 3) (e := e) (v := X) g0 (by first | decide | omega) (k2)
    refine gx_callo (a := 144) rfl rfl g0 rfl rfl rfl r2 rfl ?_
    show en_ex _ _ _ _ (31, [(5, .inl 0), (0, gx_r 144), (1, gx_r 278), (2, .inl g), (3, .inl w), (4, .inl e)], [.inl X, .inl 10], t0, n, 0) _
    have hm : (10 - (q - (2 * w))) * X ≤ 10 * 1000000 := Nat.mul_le_mul (by first | decide | omega) hX
    refine gx_imul rfl (by first | decide | omega) rfl ?_
    refine ex_go (S := (34, [(5, .inl 0), (0, gx_r 144), (1, gx_r 278), (2, .inl g), (3, .inl w), (4, .inl e)], [.inl 10, .inl (10 * X)], t0, n, 0)) rfl (fun _ => rfl) rfl ?_
    refine gx_idivn rfl (by first | decide | omega) (by first | decide | omega) (by first | decide | omega) rfl ?_
    refine ex_ret (r := (some (.inl ((10 * X) / 10)), t0, n, 0)) rfl (fun _ => rfl) ?_
    refine ⟨_, rfl, ?_⟩
    unfold gG
    have h9 : q - 2 * w = 0 := by omega
    rw [h9, Nat.sub_zero]
  · refine gx_isub rfl (by first | decide | omega) (by first | decide | omega) rfl ?_
    refine gx_imm (m := q - (2 * w)) rfl rfl ((zk_max (by first | decide | omega) (by first | decide | omega)).trans (by rw [Nat.zero_max])) rfl rfl ?_
    refine ex_go (S := (16, [(5, .inl (q - (2 * w))), (0, gx_r 144), (1, gx_r 278), (2, .inl g), (3, .inl w), (4, .inl e)], [], t0, n, 0)) rfl (fun _ => rfl) rfl ?_
    refine ex_go (S := (18, [(5, .inl (q - (2 * w))), (0, gx_r 144), (1, gx_r 278), (2, .inl g), (3, .inl w), (4, .inl e)], [.inl 10], t0, n, 0)) rfl (fun _ => rfl) rfl ?_
    refine ex_go (S := (20, [(5, .inl (q - (2 * w))), (0, gx_r 144), (1, gx_r 278), (2, .inl g), (3, .inl w), (4, .inl e)], [.inl (q - (2 * w)), .inl 10], t0, n, 0)) rfl (fun _ => rfl) rfl ?_
    refine gx_isub rfl (by first | decide | omega) (by first | decide | omega) rfl ?_
    refine ex_go (S := (22, [(5, .inl (q - (2 * w))), (0, gx_r 144), (1, gx_r 278), (2, .inl g), (3, .inl w), (4, .inl e)], [gx_r 144, .inl (10 - (q - (2 * w)))], t0, n, 0)) rfl (fun _ => rfl) rfl ?_
    refine ex_go (S := (23, [(5, .inl (q - (2 * w))), (0, gx_r 144), (1, gx_r 278), (2, .inl g), (3, .inl w), (4, .inl e)], [.inl g, gx_r 144, .inl (10 - (q - (2 * w)))], t0, n, 0)) rfl (fun _ => rfl) rfl ?_
    refine ex_go (S := (24, [(5, .inl (q - (2 * w))), (0, gx_r 144), (1, gx_r 278), (2, .inl g), (3, .inl w), (4, .inl e)], [.inl 1, .inl g, gx_r 144, .inl (10 - (q - (2 * w)))], t0, n, 0)) rfl (fun _ => rfl) rfl ?_
    refine ex_iadd rfl (by first | decide | omega) rfl ?_
    refine ex_go (S := (26, [(5, .inl (q - (2 * w))), (0, gx_r 144), (1, gx_r 278), (2, .inl g), (3, .inl w), (4, .inl e)], [.inl 3, .inl (g + 1), gx_r 144, .inl (10 - (q - (2 * w)))], t0, n, 0)) rfl (fun _ => rfl) rfl ?_
    refine ex_go (S := (28, [(5, .inl (q - (2 * w))), (0, gx_r 144), (1, gx_r 278), (2, .inl g), (3, .inl w), (4, .inl e)], [.inl e, .inl 3, .inl (g + 1), gx_r 144, .inl (10 - (q - (2 * w)))], t0, n, 0)) rfl (fun _ => rfl) rfl ?_
    obtain ⟨_, r3, rfl⟩ := pc_gapChance (d) n (g := g + 1) (w := 3) (e := e) (v := X) g0 (by first | decide | omega) (k2)
    refine gx_callo (a := 144) rfl rfl g0 rfl rfl rfl r3 rfl ?_
    show en_ex _ _ _ _ (31, [(5, .inl (q - (2 * w))), (0, gx_r 144), (1, gx_r 278), (2, .inl g), (3, .inl w), (4, .inl e)], [.inl X, .inl (10 - (q - (2 * w)))], t0, n, 0) _
    have hm : (10 - (q - (2 * w))) * X ≤ 10 * 1000000 := Nat.mul_le_mul (by first | decide | omega) hX
    refine gx_imul rfl (by first | decide | omega) rfl ?_
    refine ex_go (S := (34, [(5, .inl (q - (2 * w))), (0, gx_r 144), (1, gx_r 278), (2, .inl g), (3, .inl w), (4, .inl e)], [.inl 10, .inl ((10 - (q - (2 * w))) * X)], t0, n, 0)) rfl (fun _ => rfl) rfl ?_
    refine gx_idivn rfl (by first | decide | omega) (by first | decide | omega) (by first | decide | omega) rfl ?_
    refine ex_ret (r := (some (.inl (((10 - (q - (2 * w))) * X) / 10)), t0, n, 0)) rfl (fun _ => rfl) ?_
    exact ⟨_, rfl, rfl⟩
theorem pc_open278 (d n : Nat) {t0 : en_H} {g w e q X Y : Nat} (g0 : ai_HG ah_G t0) (hb : g ≤ 4 ∧ w ≤ 2 ∧ e ≤ 40) (k1 : ai_hv t0 281 g = some (.inl q)) (hq : q ≤ 10) (k2 : ai_hv t0 145 ((((g + 1) * 4) + 3) * 41 + e) = some (.inl X)) (hX : X ≤ 1000000) (k3 : ai_hv t0 145 (((g * 4) + w) * 41 + e) = some (.inl Y)) (hY : Y ≤ 1000000) : ∃ r, en_u (d + 4) 256 [gx_r 144, gx_r 278, .inl g, .inl w, .inl e] t0 n = some r ∧ r = (some (.inl (gO q w X Y)), t0, n, 0) := by
  refine en_u_ex (d := d + 3) rfl ?_
  show en_ex _ _ _ _ (0, [(0, gx_r 144), (1, gx_r 278), (2, .inl g), (3, .inl w), (4, .inl e)], [], t0, n, 0) _
  have hgl := gG_le (q := q) (w := w) hX
  refine ex_go (S := (1, [(0, gx_r 144), (1, gx_r 278), (2, .inl g), (3, .inl w), (4, .inl e)], [gx_r 144], t0, n, 0)) rfl (fun _ => rfl) rfl ?_
  refine ex_go (S := (2, [(0, gx_r 144), (1, gx_r 278), (2, .inl g), (3, .inl w), (4, .inl e)], [gx_r 278, gx_r 144], t0, n, 0)) rfl (fun _ => rfl) rfl ?_
  refine ex_go (S := (3, [(0, gx_r 144), (1, gx_r 278), (2, .inl g), (3, .inl w), (4, .inl e)], [.inl g, gx_r 278, gx_r 144], t0, n, 0)) rfl (fun _ => rfl) rfl ?_
  refine ex_go (S := (4, [(0, gx_r 144), (1, gx_r 278), (2, .inl g), (3, .inl w), (4, .inl e)], [.inl w, .inl g, gx_r 278, gx_r 144], t0, n, 0)) rfl (fun _ => rfl) rfl ?_
  refine ex_go (S := (6, [(0, gx_r 144), (1, gx_r 278), (2, .inl g), (3, .inl w), (4, .inl e)], [.inl e, .inl w, .inl g, gx_r 278, gx_r 144], t0, n, 0)) rfl (fun _ => rfl) rfl ?_
  obtain ⟨_, r1, rfl⟩ := pc_going278 d n g0 hb k1 hq k2 hX
  refine gx_callo (a := 144) rfl rfl g0 rfl rfl rfl r1 rfl ?_
  show en_ex _ _ _ _ (9, [(0, gx_r 144), (1, gx_r 278), (2, .inl g), (3, .inl w), (4, .inl e)], [.inl (gG q w X)], t0, n, 0) _
  refine ex_go (S := (10, [(0, gx_r 144), (1, gx_r 278), (2, .inl g), (3, .inl w), (4, .inl e)], [gx_r 144, .inl (gG q w X)], t0, n, 0)) rfl (fun _ => rfl) rfl ?_
  refine ex_go (S := (11, [(0, gx_r 144), (1, gx_r 278), (2, .inl g), (3, .inl w), (4, .inl e)], [.inl g, gx_r 144, .inl (gG q w X)], t0, n, 0)) rfl (fun _ => rfl) rfl ?_
  refine ex_go (S := (12, [(0, gx_r 144), (1, gx_r 278), (2, .inl g), (3, .inl w), (4, .inl e)], [.inl w, .inl g, gx_r 144, .inl (gG q w X)], t0, n, 0)) rfl (fun _ => rfl) rfl ?_
  refine ex_go (S := (14, [(0, gx_r 144), (1, gx_r 278), (2, .inl g), (3, .inl w), (4, .inl e)], [.inl e, .inl w, .inl g, gx_r 144, .inl (gG q w X)], t0, n, 0)) rfl (fun _ => rfl) rfl ?_
  obtain ⟨_, r2, rfl⟩ := pc_gapChance (d + 1) n (g := g) (w := w) (e := e) (v := Y) g0 (by first | decide | omega) (k3)
  refine gx_callo (a := 144) rfl rfl g0 rfl rfl rfl r2 rfl ?_
  show en_ex _ _ _ _ (17, [(0, gx_r 144), (1, gx_r 278), (2, .inl g), (3, .inl w), (4, .inl e)], [.inl Y, .inl (gG q w X)], t0, n, 0) _
  refine gx_imm rfl rfl (zk_max (by first | decide | omega) (by first | decide | omega)) rfl rfl ?_
  refine ex_ret (r := (some (.inl (max (gG q w X) Y)), t0, n, 0)) rfl (fun _ => rfl) ?_
  exact ⟨_, rfl, rfl⟩
theorem pc_day278 (d n : Nat) {t0 : en_H} {g e o q X : Nat} {P : Nat → Nat} (g0 : ai_HG ah_G t0) (hb : g ≤ 4 ∧ e + 1 ≤ 40) (kO : ai_hv t0 280 g = some (.inl o)) (ho : o ≤ 10) (k1 : ai_hv t0 281 g = some (.inl q)) (hq : q ≤ 10) (k2 : ai_hv t0 145 ((((g + 1) * 4) + 3) * 41 + e) = some (.inl X)) (hX : X ≤ 1000000) (kP : ∀ w, w ≤ 3 → ai_hv t0 145 (((g * 4) + w) * 41 + e) = some (.inl (P w))) (hP : ∀ w, w ≤ 3 → P w ≤ 1000000) : ∃ r, en_u (d + 5) 213 [gx_r 144, gx_r 278, .inl g, .inl (e + 1)] t0 n = some r ∧ ∃ t', r = (none, t', n, 0) ∧ ai_HG ah_G t' ∧ (∀ c i, ¬ (c = 145 ∧ (i = ((g * 4) + 0) * 41 + (e + 1) ∨ i = ((g * 4) + 1) * 41 + (e + 1) ∨ i = ((g * 4) + 2) * 41 + (e + 1) ∨ i = ((g * 4) + 3) * 41 + (e + 1))) → ai_hv t' c i = ai_hv t0 c i) ∧ ∀ w, w ≤ 3 → ai_hv t' 145 (((g * 4) + w) * 41 + (e + 1)) = some (.inl (gs o q X P w)) := by
  refine en_u_ex (d := d + 4) rfl ?_
  show en_ex _ _ _ _ (0, [(0, gx_r 144), (1, gx_r 278), (2, .inl g), (3, .inl (e + 1))], [], t0, n, 0) _
  have hp3 := hP 3 (by first | decide | omega)
  have ho0 := gO_le (q := q) (w := 0) hX (hP 0 (by first | decide | omega))
  have ho1 := gO_le (q := q) (w := 1) hX (hP 1 (by first | decide | omega))
  have ho2 := gO_le (q := q) (w := 2) hX (hP 2 (by first | decide | omega))
  have hm1 := Nat.mul_le_mul ho ho0
  have hm2 := Nat.mul_le_mul (show 10 - o ≤ 10 by omega) hp3
  refine ex_go (S := (1, [(0, gx_r 144), (1, gx_r 278), (2, .inl g), (3, .inl (e + 1))], [.inl (e + 1)], t0, n, 0)) rfl (fun _ => rfl) rfl ?_
  refine ex_go (S := (2, [(0, gx_r 144), (1, gx_r 278), (2, .inl g), (3, .inl (e + 1))], [.inl 1, .inl (e + 1)], t0, n, 0)) rfl (fun _ => rfl) rfl ?_
  refine gx_isub rfl (by first | decide | omega) (by first | decide | omega) rfl ?_
  show en_ex _ _ _ _ (3, [(0, gx_r 144), (1, gx_r 278), (2, .inl g), (3, .inl (e + 1))], [.inl e], t0, n, 0) _
  refine ex_go (S := (5, [(4, .inl e), (0, gx_r 144), (1, gx_r 278), (2, .inl g), (3, .inl (e + 1))], [], t0, n, 0)) rfl (fun _ => rfl) rfl ?_
  refine ex_go (S := (6, [(4, .inl e), (0, gx_r 144), (1, gx_r 278), (2, .inl g), (3, .inl (e + 1))], [gx_r 144], t0, n, 0)) rfl (fun _ => rfl) rfl ?_
  refine ex_go (S := (7, [(4, .inl e), (0, gx_r 144), (1, gx_r 278), (2, .inl g), (3, .inl (e + 1))], [.inl g, gx_r 144], t0, n, 0)) rfl (fun _ => rfl) rfl ?_
  refine ex_go (S := (8, [(4, .inl e), (0, gx_r 144), (1, gx_r 278), (2, .inl g), (3, .inl (e + 1))], [.inl 3, .inl g, gx_r 144], t0, n, 0)) rfl (fun _ => rfl) rfl ?_
  refine ex_go (S := (10, [(4, .inl e), (0, gx_r 144), (1, gx_r 278), (2, .inl g), (3, .inl (e + 1))], [.inl e, .inl 3, .inl g, gx_r 144], t0, n, 0)) rfl (fun _ => rfl) rfl ?_
  obtain ⟨_, r1, rfl⟩ := pc_gapChance (d + 2) n (g := g) (w := 3) (e := e) (v := P 3) g0 (by first | decide | omega) (kP 3 (by first | decide | omega))
  refine gx_callo (a := 144) rfl rfl g0 rfl rfl rfl r1 rfl ?_
  show en_ex _ _ _ _ (13, [(4, .inl e), (0, gx_r 144), (1, gx_r 278), (2, .inl g), (3, .inl (e + 1))], [.inl (P 3)], t0, n, 0) _
  refine ex_go (S := (15, [(5, .inl (P 3)), (4, .inl e), (0, gx_r 144), (1, gx_r 278), (2, .inl g), (3, .inl (e + 1))], [], t0, n, 0)) rfl (fun _ => rfl) rfl ?_
  refine ex_go (S := (16, [(5, .inl (P 3)), (4, .inl e), (0, gx_r 144), (1, gx_r 278), (2, .inl g), (3, .inl (e + 1))], [gx_r 278], t0, n, 0)) rfl (fun _ => rfl) rfl ?_
  refine gxo_ref (a := 278) (c := 280) rfl g0 rfl rfl rfl rfl rfl ?_
  refine ex_go (S := (20, [(5, .inl (P 3)), (4, .inl e), (0, gx_r 144), (1, gx_r 278), (2, .inl g), (3, .inl (e + 1))], [.inl g, gx_r 280], t0, n, 0)) rfl (fun _ => rfl) rfl ?_
  refine gx_ag (v := .inl o) (cb := fun c => Nat.beq c 0) rfl (fun _ => rfl) g0 rfl rfl kO (by first | decide | omega) rfl ?_
  refine ex_go (S := (23, [(6, .inl o), (5, .inl (P 3)), (4, .inl e), (0, gx_r 144), (1, gx_r 278), (2, .inl g), (3, .inl (e + 1))], [], t0, n, 0)) rfl (fun _ => rfl) rfl ?_
  refine ex_go (S := (24, [(6, .inl o), (5, .inl (P 3)), (4, .inl e), (0, gx_r 144), (1, gx_r 278), (2, .inl g), (3, .inl (e + 1))], [gx_r 144], t0, n, 0)) rfl (fun _ => rfl) rfl ?_
  refine gxo_ref (a := 144) (c := 145) rfl g0 rfl rfl rfl rfl rfl ?_
  refine ex_go (S := (28, [(6, .inl o), (5, .inl (P 3)), (4, .inl e), (0, gx_r 144), (1, gx_r 278), (2, .inl g), (3, .inl (e + 1))], [.inl g, gx_r 145], t0, n, 0)) rfl (fun _ => rfl) rfl ?_
  refine ex_go (S := (29, [(6, .inl o), (5, .inl (P 3)), (4, .inl e), (0, gx_r 144), (1, gx_r 278), (2, .inl g), (3, .inl (e + 1))], [.inl 3, .inl g, gx_r 145], t0, n, 0)) rfl (fun _ => rfl) rfl ?_
  refine ex_go (S := (30, [(6, .inl o), (5, .inl (P 3)), (4, .inl e), (0, gx_r 144), (1, gx_r 278), (2, .inl g), (3, .inl (e + 1))], [.inl (e + 1), .inl 3, .inl g, gx_r 145], t0, n, 0)) rfl (fun _ => rfl) rfl ?_
  obtain ⟨_, r2, rfl⟩ := pc_gapIndex (d + 3) n (t0 := t0) (g := g) (w := 3) (e := e + 1) (by first | decide | omega)
  refine ex_stat rfl rfl rfl rfl rfl r2 (Nat.le_refl _) rfl ?_
  show en_ex _ _ _ _ (33, [(6, .inl o), (5, .inl (P 3)), (4, .inl e), (0, gx_r 144), (1, gx_r 278), (2, .inl g), (3, .inl (e + 1))], [.inl (((g * 4) + 3) * 41 + (e + 1)), gx_r 145], t0, n, 0) _
  refine ex_go (S := (35, [(6, .inl o), (5, .inl (P 3)), (4, .inl e), (0, gx_r 144), (1, gx_r 278), (2, .inl g), (3, .inl (e + 1))], [.inl o, .inl (((g * 4) + 3) * 41 + (e + 1)), gx_r 145], t0, n, 0)) rfl (fun _ => rfl) rfl ?_
  refine ex_go (S := (36, [(6, .inl o), (5, .inl (P 3)), (4, .inl e), (0, gx_r 144), (1, gx_r 278), (2, .inl g), (3, .inl (e + 1))], [gx_r 144, .inl o, .inl (((g * 4) + 3) * 41 + (e + 1)), gx_r 145], t0, n, 0)) rfl (fun _ => rfl) rfl ?_
  refine ex_go (S := (37, [(6, .inl o), (5, .inl (P 3)), (4, .inl e), (0, gx_r 144), (1, gx_r 278), (2, .inl g), (3, .inl (e + 1))], [gx_r 278, gx_r 144, .inl o, .inl (((g * 4) + 3) * 41 + (e + 1)), gx_r 145], t0, n, 0)) rfl (fun _ => rfl) rfl ?_
  refine ex_go (S := (38, [(6, .inl o), (5, .inl (P 3)), (4, .inl e), (0, gx_r 144), (1, gx_r 278), (2, .inl g), (3, .inl (e + 1))], [.inl g, gx_r 278, gx_r 144, .inl o, .inl (((g * 4) + 3) * 41 + (e + 1)), gx_r 145], t0, n, 0)) rfl (fun _ => rfl) rfl ?_
  refine ex_go (S := (39, [(6, .inl o), (5, .inl (P 3)), (4, .inl e), (0, gx_r 144), (1, gx_r 278), (2, .inl g), (3, .inl (e + 1))], [.inl 0, .inl g, gx_r 278, gx_r 144, .inl o, .inl (((g * 4) + 3) * 41 + (e + 1)), gx_r 145], t0, n, 0)) rfl (fun _ => rfl) rfl ?_
  refine ex_go (S := (41, [(6, .inl o), (5, .inl (P 3)), (4, .inl e), (0, gx_r 144), (1, gx_r 278), (2, .inl g), (3, .inl (e + 1))], [.inl e, .inl 0, .inl g, gx_r 278, gx_r 144, .inl o, .inl (((g * 4) + 3) * 41 + (e + 1)), gx_r 145], t0, n, 0)) rfl (fun _ => rfl) rfl ?_
  obtain ⟨_, r3, rfl⟩ := pc_open278 d n (w := 0) g0 (by first | decide | omega) (k1) hq (k2) hX (kP 0 (by first | decide | omega)) (hP 0 (by first | decide | omega))
  refine gx_callo (a := 144) rfl rfl g0 rfl rfl rfl r3 rfl ?_
  show en_ex _ _ _ _ (44, [(6, .inl o), (5, .inl (P 3)), (4, .inl e), (0, gx_r 144), (1, gx_r 278), (2, .inl g), (3, .inl (e + 1))], [.inl (gO q 0 X (P 0)), .inl o, .inl (((g * 4) + 3) * 41 + (e + 1)), gx_r 145], t0, n, 0) _
  refine gx_imul rfl (by first | decide | omega) rfl ?_
  refine ex_go (S := (47, [(6, .inl o), (5, .inl (P 3)), (4, .inl e), (0, gx_r 144), (1, gx_r 278), (2, .inl g), (3, .inl (e + 1))], [.inl 10, .inl (o * (gO q 0 X (P 0))), .inl (((g * 4) + 3) * 41 + (e + 1)), gx_r 145], t0, n, 0)) rfl (fun _ => rfl) rfl ?_
  refine ex_go (S := (49, [(6, .inl o), (5, .inl (P 3)), (4, .inl e), (0, gx_r 144), (1, gx_r 278), (2, .inl g), (3, .inl (e + 1))], [.inl o, .inl 10, .inl (o * (gO q 0 X (P 0))), .inl (((g * 4) + 3) * 41 + (e + 1)), gx_r 145], t0, n, 0)) rfl (fun _ => rfl) rfl ?_
  refine gx_isub rfl (by first | decide | omega) (by first | decide | omega) rfl ?_
  refine ex_go (S := (52, [(6, .inl o), (5, .inl (P 3)), (4, .inl e), (0, gx_r 144), (1, gx_r 278), (2, .inl g), (3, .inl (e + 1))], [.inl (P 3), .inl (10 - o), .inl (o * (gO q 0 X (P 0))), .inl (((g * 4) + 3) * 41 + (e + 1)), gx_r 145], t0, n, 0)) rfl (fun _ => rfl) rfl ?_
  refine gx_imul rfl (by first | decide | omega) rfl ?_
  refine ex_iadd rfl (by first | decide | omega) rfl ?_
  refine ex_go (S := (56, [(6, .inl o), (5, .inl (P 3)), (4, .inl e), (0, gx_r 144), (1, gx_r 278), (2, .inl g), (3, .inl (e + 1))], [.inl 10, .inl ((o * (gO q 0 X (P 0))) + ((10 - o) * (P 3))), .inl (((g * 4) + 3) * 41 + (e + 1)), gx_r 145], t0, n, 0)) rfl (fun _ => rfl) rfl ?_
  refine gx_idivn rfl (by first | decide | omega) (by first | decide | omega) (by first | decide | omega) rfl ?_
  refine gx_ap rfl (fun _ => rfl) g0 rfl rfl rfl (show ((g * 4) + 3) * 41 + (e + 1) < 984 from by omega) (gx_run1 (show ((g * 4) + 3) * 41 + (e + 1) < 984 from by omega)) (gx_full (by first | decide | omega)) rfl (fun t104 g104 k104 e104 => ?_)
  have k5 : ai_hv t104 280 g = some (.inl o) := (e104 280 g (by first | decide | omega)).trans kO
  refine ex_go (S := (59, [(6, .inl o), (5, .inl (P 3)), (4, .inl e), (0, gx_r 144), (1, gx_r 278), (2, .inl g), (3, .inl (e + 1))], [.inl 0], t104, n, 0)) rfl (fun _ => rfl) rfl ?_
  refine ex_go (S := (61, [(7, .inl 0), (6, .inl o), (5, .inl (P 3)), (4, .inl e), (0, gx_r 144), (1, gx_r 278), (2, .inl g), (3, .inl (e + 1))], [], t104, n, 0)) rfl (fun _ => rfl) rfl ?_
  refine ex_go (S := (63, [(7, .inl 0), (6, .inl o), (5, .inl (P 3)), (4, .inl e), (0, gx_r 144), (1, gx_r 278), (2, .inl g), (3, .inl (e + 1))], [.inl 0], t104, n, 0)) rfl (fun _ => rfl) rfl ?_
  refine ex_go (S := (64, [(7, .inl 0), (6, .inl o), (5, .inl (P 3)), (4, .inl e), (0, gx_r 144), (1, gx_r 278), (2, .inl g), (3, .inl (e + 1))], [.inl 2, .inl 0], t104, n, 0)) rfl (fun _ => rfl) rfl ?_
  refine ex_go (S := (67, [(7, .inl 0), (6, .inl o), (5, .inl (P 3)), (4, .inl e), (0, gx_r 144), (1, gx_r 278), (2, .inl g), (3, .inl (e + 1))], [], t104, n, 0)) rfl (fun _ => rfl) rfl ?_
  refine ex_go (S := (69, [(7, .inl 0), (6, .inl o), (5, .inl (P 3)), (4, .inl e), (0, gx_r 144), (1, gx_r 278), (2, .inl g), (3, .inl (e + 1))], [.inl 0], t104, n, 0)) rfl (fun _ => rfl) rfl ?_
  refine ex_go (S := (70, [(7, .inl 0), (6, .inl o), (5, .inl (P 3)), (4, .inl e), (0, gx_r 144), (1, gx_r 278), (2, .inl g), (3, .inl (e + 1))], [.inl 1, .inl 0], t104, n, 0)) rfl (fun _ => rfl) rfl ?_
  refine ex_go (S := (71, [(7, .inl 0), (6, .inl o), (5, .inl (P 3)), (4, .inl e), (0, gx_r 144), (1, gx_r 278), (2, .inl g), (3, .inl (e + 1))], [.inl 1], t104, n, 0)) rfl (fun _ => rfl) rfl ?_
  refine ex_go (S := (72, [(7, .inl 0), (6, .inl o), (5, .inl (P 3)), (4, .inl e), (0, gx_r 144), (1, gx_r 278), (2, .inl g), (3, .inl (e + 1))], [.inl 2, .inl 1], t104, n, 0)) rfl (fun _ => rfl) rfl ?_
  refine gx_inn (m := 1) rfl rfl rfl (by decide) rfl rfl ?_
  refine ex_go (S := (77, [(8, .inl 1), (7, .inl 0), (6, .inl o), (5, .inl (P 3)), (4, .inl e), (0, gx_r 144), (1, gx_r 278), (2, .inl g), (3, .inl (e + 1))], [], t104, n, 0)) rfl (fun _ => rfl) rfl ?_
  refine ex_go (S := (78, [(8, .inl 1), (7, .inl 0), (6, .inl o), (5, .inl (P 3)), (4, .inl e), (0, gx_r 144), (1, gx_r 278), (2, .inl g), (3, .inl (e + 1))], [gx_r 144], t104, n, 0)) rfl (fun _ => rfl) rfl ?_
  refine gxo_ref (a := 144) (c := 145) rfl g104 rfl rfl rfl rfl rfl ?_
  refine ex_go (S := (82, [(8, .inl 1), (7, .inl 0), (6, .inl o), (5, .inl (P 3)), (4, .inl e), (0, gx_r 144), (1, gx_r 278), (2, .inl g), (3, .inl (e + 1))], [.inl g, gx_r 145], t104, n, 0)) rfl (fun _ => rfl) rfl ?_
  refine ex_go (S := (84, [(8, .inl 1), (7, .inl 0), (6, .inl o), (5, .inl (P 3)), (4, .inl e), (0, gx_r 144), (1, gx_r 278), (2, .inl g), (3, .inl (e + 1))], [.inl 0, .inl g, gx_r 145], t104, n, 0)) rfl (fun _ => rfl) rfl ?_
  refine ex_go (S := (85, [(8, .inl 1), (7, .inl 0), (6, .inl o), (5, .inl (P 3)), (4, .inl e), (0, gx_r 144), (1, gx_r 278), (2, .inl g), (3, .inl (e + 1))], [.inl (e + 1), .inl 0, .inl g, gx_r 145], t104, n, 0)) rfl (fun _ => rfl) rfl ?_
  obtain ⟨_, r6, rfl⟩ := pc_gapIndex (d + 3) n (t0 := t104) (g := g) (w := 0) (e := e + 1) (by first | decide | omega)
  refine ex_stat rfl rfl rfl rfl rfl r6 (Nat.le_refl _) rfl ?_
  show en_ex _ _ _ _ (88, [(8, .inl 1), (7, .inl 0), (6, .inl o), (5, .inl (P 3)), (4, .inl e), (0, gx_r 144), (1, gx_r 278), (2, .inl g), (3, .inl (e + 1))], [.inl (((g * 4) + 0) * 41 + (e + 1)), gx_r 145], t104, n, 0) _
  refine ex_go (S := (89, [(8, .inl 1), (7, .inl 0), (6, .inl o), (5, .inl (P 3)), (4, .inl e), (0, gx_r 144), (1, gx_r 278), (2, .inl g), (3, .inl (e + 1))], [.inl 2, .inl (((g * 4) + 0) * 41 + (e + 1)), gx_r 145], t104, n, 0)) rfl (fun _ => rfl) rfl ?_
  refine ex_go (S := (91, [(8, .inl 1), (7, .inl 0), (6, .inl o), (5, .inl (P 3)), (4, .inl e), (0, gx_r 144), (1, gx_r 278), (2, .inl g), (3, .inl (e + 1))], [.inl (P 3), .inl 2, .inl (((g * 4) + 0) * 41 + (e + 1)), gx_r 145], t104, n, 0)) rfl (fun _ => rfl) rfl ?_
  refine gx_imul rfl (by first | decide | omega) rfl ?_
  refine ex_go (S := (94, [(8, .inl 1), (7, .inl 0), (6, .inl o), (5, .inl (P 3)), (4, .inl e), (0, gx_r 144), (1, gx_r 278), (2, .inl g), (3, .inl (e + 1))], [.inl 8, .inl (2 * (P 3)), .inl (((g * 4) + 0) * 41 + (e + 1)), gx_r 145], t104, n, 0)) rfl (fun _ => rfl) rfl ?_
  refine ex_go (S := (95, [(8, .inl 1), (7, .inl 0), (6, .inl o), (5, .inl (P 3)), (4, .inl e), (0, gx_r 144), (1, gx_r 278), (2, .inl g), (3, .inl (e + 1))], [gx_r 144, .inl 8, .inl (2 * (P 3)), .inl (((g * 4) + 0) * 41 + (e + 1)), gx_r 145], t104, n, 0)) rfl (fun _ => rfl) rfl ?_
  refine ex_go (S := (96, [(8, .inl 1), (7, .inl 0), (6, .inl o), (5, .inl (P 3)), (4, .inl e), (0, gx_r 144), (1, gx_r 278), (2, .inl g), (3, .inl (e + 1))], [gx_r 278, gx_r 144, .inl 8, .inl (2 * (P 3)), .inl (((g * 4) + 0) * 41 + (e + 1)), gx_r 145], t104, n, 0)) rfl (fun _ => rfl) rfl ?_
  refine ex_go (S := (97, [(8, .inl 1), (7, .inl 0), (6, .inl o), (5, .inl (P 3)), (4, .inl e), (0, gx_r 144), (1, gx_r 278), (2, .inl g), (3, .inl (e + 1))], [.inl g, gx_r 278, gx_r 144, .inl 8, .inl (2 * (P 3)), .inl (((g * 4) + 0) * 41 + (e + 1)), gx_r 145], t104, n, 0)) rfl (fun _ => rfl) rfl ?_
  refine ex_go (S := (99, [(8, .inl 1), (7, .inl 0), (6, .inl o), (5, .inl (P 3)), (4, .inl e), (0, gx_r 144), (1, gx_r 278), (2, .inl g), (3, .inl (e + 1))], [.inl 1, .inl g, gx_r 278, gx_r 144, .inl 8, .inl (2 * (P 3)), .inl (((g * 4) + 0) * 41 + (e + 1)), gx_r 145], t104, n, 0)) rfl (fun _ => rfl) rfl ?_
  refine ex_go (S := (101, [(8, .inl 1), (7, .inl 0), (6, .inl o), (5, .inl (P 3)), (4, .inl e), (0, gx_r 144), (1, gx_r 278), (2, .inl g), (3, .inl (e + 1))], [.inl e, .inl 1, .inl g, gx_r 278, gx_r 144, .inl 8, .inl (2 * (P 3)), .inl (((g * 4) + 0) * 41 + (e + 1)), gx_r 145], t104, n, 0)) rfl (fun _ => rfl) rfl ?_
  obtain ⟨_, r7, rfl⟩ := pc_open278 d n (w := 1) g104 (by first | decide | omega) ((e104 281 (g) (by first | decide | omega)).trans (k1)) hq ((e104 145 ((((g + 1) * 4) + 3) * 41 + e) (by first | decide | omega)).trans (k2)) hX ((e104 145 (((g * 4) + 1) * 41 + e) (by first | decide | omega)).trans (kP 1 (by first | decide | omega))) (hP 1 (by first | decide | omega))
  refine gx_callo (a := 144) rfl rfl g104 rfl rfl rfl r7 rfl ?_
  show en_ex _ _ _ _ (104, [(8, .inl 1), (7, .inl 0), (6, .inl o), (5, .inl (P 3)), (4, .inl e), (0, gx_r 144), (1, gx_r 278), (2, .inl g), (3, .inl (e + 1))], [.inl (gO q 1 X (P 1)), .inl 8, .inl (2 * (P 3)), .inl (((g * 4) + 0) * 41 + (e + 1)), gx_r 145], t104, n, 0) _
  refine gx_imul rfl (by first | decide | omega) rfl ?_
  refine ex_iadd rfl (by first | decide | omega) rfl ?_
  refine ex_go (S := (108, [(8, .inl 1), (7, .inl 0), (6, .inl o), (5, .inl (P 3)), (4, .inl e), (0, gx_r 144), (1, gx_r 278), (2, .inl g), (3, .inl (e + 1))], [.inl 10, .inl ((2 * (P 3)) + (8 * (gO q 1 X (P 1)))), .inl (((g * 4) + 0) * 41 + (e + 1)), gx_r 145], t104, n, 0)) rfl (fun _ => rfl) rfl ?_
  refine gx_idivn rfl (by first | decide | omega) (by first | decide | omega) (by first | decide | omega) rfl ?_
  refine gx_ap rfl (fun _ => rfl) g104 rfl rfl rfl (show ((g * 4) + 0) * 41 + (e + 1) < 984 from by omega) (gx_run1 (show ((g * 4) + 0) * 41 + (e + 1) < 984 from by omega)) (gx_full (by first | decide | omega)) rfl (fun t108 g108 k108 e108 => ?_)
  have k9 : ai_hv t108 280 g = some (.inl o) := (e108 280 g (by first | decide | omega)).trans k5
  have k10 : ai_hv t108 145 (((g * 4) + 3) * 41 + (e + 1)) = some (.inl (((o * (gO q 0 X (P 0))) + ((10 - o) * (P 3))) / 10)) := (e108 145 (((g * 4) + 3) * 41 + (e + 1)) (by first | decide | omega)).trans k104
  refine ex_go (S := (113, [(7, .inl 1), (8, .inl 1), (6, .inl o), (5, .inl (P 3)), (4, .inl e), (0, gx_r 144), (1, gx_r 278), (2, .inl g), (3, .inl (e + 1))], [], t108, n, 0)) rfl (fun _ => rfl) rfl ?_
  refine ex_go (S := (61, [(7, .inl 1), (8, .inl 1), (6, .inl o), (5, .inl (P 3)), (4, .inl e), (0, gx_r 144), (1, gx_r 278), (2, .inl g), (3, .inl (e + 1))], [], t108, n, 0)) rfl (fun _ => rfl) rfl ?_
  refine ex_go (S := (63, [(7, .inl 1), (8, .inl 1), (6, .inl o), (5, .inl (P 3)), (4, .inl e), (0, gx_r 144), (1, gx_r 278), (2, .inl g), (3, .inl (e + 1))], [.inl 1], t108, n, 0)) rfl (fun _ => rfl) rfl ?_
  refine ex_go (S := (64, [(7, .inl 1), (8, .inl 1), (6, .inl o), (5, .inl (P 3)), (4, .inl e), (0, gx_r 144), (1, gx_r 278), (2, .inl g), (3, .inl (e + 1))], [.inl 2, .inl 1], t108, n, 0)) rfl (fun _ => rfl) rfl ?_
  refine ex_go (S := (67, [(7, .inl 1), (8, .inl 1), (6, .inl o), (5, .inl (P 3)), (4, .inl e), (0, gx_r 144), (1, gx_r 278), (2, .inl g), (3, .inl (e + 1))], [], t108, n, 0)) rfl (fun _ => rfl) rfl ?_
  refine ex_go (S := (69, [(7, .inl 1), (8, .inl 1), (6, .inl o), (5, .inl (P 3)), (4, .inl e), (0, gx_r 144), (1, gx_r 278), (2, .inl g), (3, .inl (e + 1))], [.inl 1], t108, n, 0)) rfl (fun _ => rfl) rfl ?_
  refine ex_go (S := (70, [(7, .inl 1), (8, .inl 1), (6, .inl o), (5, .inl (P 3)), (4, .inl e), (0, gx_r 144), (1, gx_r 278), (2, .inl g), (3, .inl (e + 1))], [.inl 1, .inl 1], t108, n, 0)) rfl (fun _ => rfl) rfl ?_
  refine ex_go (S := (71, [(7, .inl 1), (8, .inl 1), (6, .inl o), (5, .inl (P 3)), (4, .inl e), (0, gx_r 144), (1, gx_r 278), (2, .inl g), (3, .inl (e + 1))], [.inl 2], t108, n, 0)) rfl (fun _ => rfl) rfl ?_
  refine ex_go (S := (72, [(7, .inl 1), (8, .inl 1), (6, .inl o), (5, .inl (P 3)), (4, .inl e), (0, gx_r 144), (1, gx_r 278), (2, .inl g), (3, .inl (e + 1))], [.inl 2, .inl 2], t108, n, 0)) rfl (fun _ => rfl) rfl ?_
  refine gx_inn (m := 2) rfl rfl rfl (by decide) rfl rfl ?_
  refine ex_go (S := (77, [(8, .inl 2), (7, .inl 1), (6, .inl o), (5, .inl (P 3)), (4, .inl e), (0, gx_r 144), (1, gx_r 278), (2, .inl g), (3, .inl (e + 1))], [], t108, n, 0)) rfl (fun _ => rfl) rfl ?_
  refine ex_go (S := (78, [(8, .inl 2), (7, .inl 1), (6, .inl o), (5, .inl (P 3)), (4, .inl e), (0, gx_r 144), (1, gx_r 278), (2, .inl g), (3, .inl (e + 1))], [gx_r 144], t108, n, 0)) rfl (fun _ => rfl) rfl ?_
  refine gxo_ref (a := 144) (c := 145) rfl g108 rfl rfl rfl rfl rfl ?_
  refine ex_go (S := (82, [(8, .inl 2), (7, .inl 1), (6, .inl o), (5, .inl (P 3)), (4, .inl e), (0, gx_r 144), (1, gx_r 278), (2, .inl g), (3, .inl (e + 1))], [.inl g, gx_r 145], t108, n, 0)) rfl (fun _ => rfl) rfl ?_
  refine ex_go (S := (84, [(8, .inl 2), (7, .inl 1), (6, .inl o), (5, .inl (P 3)), (4, .inl e), (0, gx_r 144), (1, gx_r 278), (2, .inl g), (3, .inl (e + 1))], [.inl 1, .inl g, gx_r 145], t108, n, 0)) rfl (fun _ => rfl) rfl ?_
  refine ex_go (S := (85, [(8, .inl 2), (7, .inl 1), (6, .inl o), (5, .inl (P 3)), (4, .inl e), (0, gx_r 144), (1, gx_r 278), (2, .inl g), (3, .inl (e + 1))], [.inl (e + 1), .inl 1, .inl g, gx_r 145], t108, n, 0)) rfl (fun _ => rfl) rfl ?_
  obtain ⟨_, r11, rfl⟩ := pc_gapIndex (d + 3) n (t0 := t108) (g := g) (w := 1) (e := e + 1) (by first | decide | omega)
  refine ex_stat rfl rfl rfl rfl rfl r11 (Nat.le_refl _) rfl ?_
  show en_ex _ _ _ _ (88, [(8, .inl 2), (7, .inl 1), (6, .inl o), (5, .inl (P 3)), (4, .inl e), (0, gx_r 144), (1, gx_r 278), (2, .inl g), (3, .inl (e + 1))], [.inl (((g * 4) + 1) * 41 + (e + 1)), gx_r 145], t108, n, 0) _
  refine ex_go (S := (89, [(8, .inl 2), (7, .inl 1), (6, .inl o), (5, .inl (P 3)), (4, .inl e), (0, gx_r 144), (1, gx_r 278), (2, .inl g), (3, .inl (e + 1))], [.inl 2, .inl (((g * 4) + 1) * 41 + (e + 1)), gx_r 145], t108, n, 0)) rfl (fun _ => rfl) rfl ?_
  refine ex_go (S := (91, [(8, .inl 2), (7, .inl 1), (6, .inl o), (5, .inl (P 3)), (4, .inl e), (0, gx_r 144), (1, gx_r 278), (2, .inl g), (3, .inl (e + 1))], [.inl (P 3), .inl 2, .inl (((g * 4) + 1) * 41 + (e + 1)), gx_r 145], t108, n, 0)) rfl (fun _ => rfl) rfl ?_
  refine gx_imul rfl (by first | decide | omega) rfl ?_
  refine ex_go (S := (94, [(8, .inl 2), (7, .inl 1), (6, .inl o), (5, .inl (P 3)), (4, .inl e), (0, gx_r 144), (1, gx_r 278), (2, .inl g), (3, .inl (e + 1))], [.inl 8, .inl (2 * (P 3)), .inl (((g * 4) + 1) * 41 + (e + 1)), gx_r 145], t108, n, 0)) rfl (fun _ => rfl) rfl ?_
  refine ex_go (S := (95, [(8, .inl 2), (7, .inl 1), (6, .inl o), (5, .inl (P 3)), (4, .inl e), (0, gx_r 144), (1, gx_r 278), (2, .inl g), (3, .inl (e + 1))], [gx_r 144, .inl 8, .inl (2 * (P 3)), .inl (((g * 4) + 1) * 41 + (e + 1)), gx_r 145], t108, n, 0)) rfl (fun _ => rfl) rfl ?_
  refine ex_go (S := (96, [(8, .inl 2), (7, .inl 1), (6, .inl o), (5, .inl (P 3)), (4, .inl e), (0, gx_r 144), (1, gx_r 278), (2, .inl g), (3, .inl (e + 1))], [gx_r 278, gx_r 144, .inl 8, .inl (2 * (P 3)), .inl (((g * 4) + 1) * 41 + (e + 1)), gx_r 145], t108, n, 0)) rfl (fun _ => rfl) rfl ?_
  refine ex_go (S := (97, [(8, .inl 2), (7, .inl 1), (6, .inl o), (5, .inl (P 3)), (4, .inl e), (0, gx_r 144), (1, gx_r 278), (2, .inl g), (3, .inl (e + 1))], [.inl g, gx_r 278, gx_r 144, .inl 8, .inl (2 * (P 3)), .inl (((g * 4) + 1) * 41 + (e + 1)), gx_r 145], t108, n, 0)) rfl (fun _ => rfl) rfl ?_
  refine ex_go (S := (99, [(8, .inl 2), (7, .inl 1), (6, .inl o), (5, .inl (P 3)), (4, .inl e), (0, gx_r 144), (1, gx_r 278), (2, .inl g), (3, .inl (e + 1))], [.inl 2, .inl g, gx_r 278, gx_r 144, .inl 8, .inl (2 * (P 3)), .inl (((g * 4) + 1) * 41 + (e + 1)), gx_r 145], t108, n, 0)) rfl (fun _ => rfl) rfl ?_
  refine ex_go (S := (101, [(8, .inl 2), (7, .inl 1), (6, .inl o), (5, .inl (P 3)), (4, .inl e), (0, gx_r 144), (1, gx_r 278), (2, .inl g), (3, .inl (e + 1))], [.inl e, .inl 2, .inl g, gx_r 278, gx_r 144, .inl 8, .inl (2 * (P 3)), .inl (((g * 4) + 1) * 41 + (e + 1)), gx_r 145], t108, n, 0)) rfl (fun _ => rfl) rfl ?_
  obtain ⟨_, r12, rfl⟩ := pc_open278 d n (w := 2) g108 (by first | decide | omega) ((e108 281 (g) (by first | decide | omega)).trans ((e104 281 (g) (by first | decide | omega)).trans (k1))) hq ((e108 145 ((((g + 1) * 4) + 3) * 41 + e) (by first | decide | omega)).trans ((e104 145 ((((g + 1) * 4) + 3) * 41 + e) (by first | decide | omega)).trans (k2))) hX ((e108 145 (((g * 4) + 2) * 41 + e) (by first | decide | omega)).trans ((e104 145 (((g * 4) + 2) * 41 + e) (by first | decide | omega)).trans (kP 2 (by first | decide | omega)))) (hP 2 (by first | decide | omega))
  refine gx_callo (a := 144) rfl rfl g108 rfl rfl rfl r12 rfl ?_
  show en_ex _ _ _ _ (104, [(8, .inl 2), (7, .inl 1), (6, .inl o), (5, .inl (P 3)), (4, .inl e), (0, gx_r 144), (1, gx_r 278), (2, .inl g), (3, .inl (e + 1))], [.inl (gO q 2 X (P 2)), .inl 8, .inl (2 * (P 3)), .inl (((g * 4) + 1) * 41 + (e + 1)), gx_r 145], t108, n, 0) _
  refine gx_imul rfl (by first | decide | omega) rfl ?_
  refine ex_iadd rfl (by first | decide | omega) rfl ?_
  refine ex_go (S := (108, [(8, .inl 2), (7, .inl 1), (6, .inl o), (5, .inl (P 3)), (4, .inl e), (0, gx_r 144), (1, gx_r 278), (2, .inl g), (3, .inl (e + 1))], [.inl 10, .inl ((2 * (P 3)) + (8 * (gO q 2 X (P 2)))), .inl (((g * 4) + 1) * 41 + (e + 1)), gx_r 145], t108, n, 0)) rfl (fun _ => rfl) rfl ?_
  refine gx_idivn rfl (by first | decide | omega) (by first | decide | omega) (by first | decide | omega) rfl ?_
  refine gx_ap rfl (fun _ => rfl) g108 rfl rfl rfl (show ((g * 4) + 1) * 41 + (e + 1) < 984 from by omega) (gx_run1 (show ((g * 4) + 1) * 41 + (e + 1) < 984 from by omega)) (gx_full (by first | decide | omega)) rfl (fun t113 g113 k113 e113 => ?_)
  have k14 : ai_hv t113 280 g = some (.inl o) := (e113 280 g (by first | decide | omega)).trans k9
  have k15 : ai_hv t113 145 (((g * 4) + 3) * 41 + (e + 1)) = some (.inl (((o * (gO q 0 X (P 0))) + ((10 - o) * (P 3))) / 10)) := (e113 145 (((g * 4) + 3) * 41 + (e + 1)) (by first | decide | omega)).trans k10
  have k16 : ai_hv t113 145 (((g * 4) + 0) * 41 + (e + 1)) = some (.inl (((2 * (P 3)) + (8 * (gO q 1 X (P 1)))) / 10)) := (e113 145 (((g * 4) + 0) * 41 + (e + 1)) (by first | decide | omega)).trans k108
  refine ex_go (S := (113, [(7, .inl 2), (8, .inl 2), (6, .inl o), (5, .inl (P 3)), (4, .inl e), (0, gx_r 144), (1, gx_r 278), (2, .inl g), (3, .inl (e + 1))], [], t113, n, 0)) rfl (fun _ => rfl) rfl ?_
  refine ex_go (S := (61, [(7, .inl 2), (8, .inl 2), (6, .inl o), (5, .inl (P 3)), (4, .inl e), (0, gx_r 144), (1, gx_r 278), (2, .inl g), (3, .inl (e + 1))], [], t113, n, 0)) rfl (fun _ => rfl) rfl ?_
  refine ex_go (S := (63, [(7, .inl 2), (8, .inl 2), (6, .inl o), (5, .inl (P 3)), (4, .inl e), (0, gx_r 144), (1, gx_r 278), (2, .inl g), (3, .inl (e + 1))], [.inl 2], t113, n, 0)) rfl (fun _ => rfl) rfl ?_
  refine ex_go (S := (64, [(7, .inl 2), (8, .inl 2), (6, .inl o), (5, .inl (P 3)), (4, .inl e), (0, gx_r 144), (1, gx_r 278), (2, .inl g), (3, .inl (e + 1))], [.inl 2, .inl 2], t113, n, 0)) rfl (fun _ => rfl) rfl ?_
  refine ex_go (S := (67, [(7, .inl 2), (8, .inl 2), (6, .inl o), (5, .inl (P 3)), (4, .inl e), (0, gx_r 144), (1, gx_r 278), (2, .inl g), (3, .inl (e + 1))], [], t113, n, 0)) rfl (fun _ => rfl) rfl ?_
  refine ex_go (S := (69, [(7, .inl 2), (8, .inl 2), (6, .inl o), (5, .inl (P 3)), (4, .inl e), (0, gx_r 144), (1, gx_r 278), (2, .inl g), (3, .inl (e + 1))], [.inl 2], t113, n, 0)) rfl (fun _ => rfl) rfl ?_
  refine ex_go (S := (70, [(7, .inl 2), (8, .inl 2), (6, .inl o), (5, .inl (P 3)), (4, .inl e), (0, gx_r 144), (1, gx_r 278), (2, .inl g), (3, .inl (e + 1))], [.inl 1, .inl 2], t113, n, 0)) rfl (fun _ => rfl) rfl ?_
  refine ex_go (S := (71, [(7, .inl 2), (8, .inl 2), (6, .inl o), (5, .inl (P 3)), (4, .inl e), (0, gx_r 144), (1, gx_r 278), (2, .inl g), (3, .inl (e + 1))], [.inl 3], t113, n, 0)) rfl (fun _ => rfl) rfl ?_
  refine ex_go (S := (72, [(7, .inl 2), (8, .inl 2), (6, .inl o), (5, .inl (P 3)), (4, .inl e), (0, gx_r 144), (1, gx_r 278), (2, .inl g), (3, .inl (e + 1))], [.inl 2, .inl 3], t113, n, 0)) rfl (fun _ => rfl) rfl ?_
  refine gx_inn (m := 2) rfl rfl rfl (by decide) rfl rfl ?_
  refine ex_go (S := (77, [(8, .inl 2), (7, .inl 2), (6, .inl o), (5, .inl (P 3)), (4, .inl e), (0, gx_r 144), (1, gx_r 278), (2, .inl g), (3, .inl (e + 1))], [], t113, n, 0)) rfl (fun _ => rfl) rfl ?_
  refine ex_go (S := (78, [(8, .inl 2), (7, .inl 2), (6, .inl o), (5, .inl (P 3)), (4, .inl e), (0, gx_r 144), (1, gx_r 278), (2, .inl g), (3, .inl (e + 1))], [gx_r 144], t113, n, 0)) rfl (fun _ => rfl) rfl ?_
  refine gxo_ref (a := 144) (c := 145) rfl g113 rfl rfl rfl rfl rfl ?_
  refine ex_go (S := (82, [(8, .inl 2), (7, .inl 2), (6, .inl o), (5, .inl (P 3)), (4, .inl e), (0, gx_r 144), (1, gx_r 278), (2, .inl g), (3, .inl (e + 1))], [.inl g, gx_r 145], t113, n, 0)) rfl (fun _ => rfl) rfl ?_
  refine ex_go (S := (84, [(8, .inl 2), (7, .inl 2), (6, .inl o), (5, .inl (P 3)), (4, .inl e), (0, gx_r 144), (1, gx_r 278), (2, .inl g), (3, .inl (e + 1))], [.inl 2, .inl g, gx_r 145], t113, n, 0)) rfl (fun _ => rfl) rfl ?_
  refine ex_go (S := (85, [(8, .inl 2), (7, .inl 2), (6, .inl o), (5, .inl (P 3)), (4, .inl e), (0, gx_r 144), (1, gx_r 278), (2, .inl g), (3, .inl (e + 1))], [.inl (e + 1), .inl 2, .inl g, gx_r 145], t113, n, 0)) rfl (fun _ => rfl) rfl ?_
  obtain ⟨_, r17, rfl⟩ := pc_gapIndex (d + 3) n (t0 := t113) (g := g) (w := 2) (e := e + 1) (by first | decide | omega)
  refine ex_stat rfl rfl rfl rfl rfl r17 (Nat.le_refl _) rfl ?_
  show en_ex _ _ _ _ (88, [(8, .inl 2), (7, .inl 2), (6, .inl o), (5, .inl (P 3)), (4, .inl e), (0, gx_r 144), (1, gx_r 278), (2, .inl g), (3, .inl (e + 1))], [.inl (((g * 4) + 2) * 41 + (e + 1)), gx_r 145], t113, n, 0) _
  refine ex_go (S := (89, [(8, .inl 2), (7, .inl 2), (6, .inl o), (5, .inl (P 3)), (4, .inl e), (0, gx_r 144), (1, gx_r 278), (2, .inl g), (3, .inl (e + 1))], [.inl 2, .inl (((g * 4) + 2) * 41 + (e + 1)), gx_r 145], t113, n, 0)) rfl (fun _ => rfl) rfl ?_
  refine ex_go (S := (91, [(8, .inl 2), (7, .inl 2), (6, .inl o), (5, .inl (P 3)), (4, .inl e), (0, gx_r 144), (1, gx_r 278), (2, .inl g), (3, .inl (e + 1))], [.inl (P 3), .inl 2, .inl (((g * 4) + 2) * 41 + (e + 1)), gx_r 145], t113, n, 0)) rfl (fun _ => rfl) rfl ?_
  refine gx_imul rfl (by first | decide | omega) rfl ?_
  refine ex_go (S := (94, [(8, .inl 2), (7, .inl 2), (6, .inl o), (5, .inl (P 3)), (4, .inl e), (0, gx_r 144), (1, gx_r 278), (2, .inl g), (3, .inl (e + 1))], [.inl 8, .inl (2 * (P 3)), .inl (((g * 4) + 2) * 41 + (e + 1)), gx_r 145], t113, n, 0)) rfl (fun _ => rfl) rfl ?_
  refine ex_go (S := (95, [(8, .inl 2), (7, .inl 2), (6, .inl o), (5, .inl (P 3)), (4, .inl e), (0, gx_r 144), (1, gx_r 278), (2, .inl g), (3, .inl (e + 1))], [gx_r 144, .inl 8, .inl (2 * (P 3)), .inl (((g * 4) + 2) * 41 + (e + 1)), gx_r 145], t113, n, 0)) rfl (fun _ => rfl) rfl ?_
  refine ex_go (S := (96, [(8, .inl 2), (7, .inl 2), (6, .inl o), (5, .inl (P 3)), (4, .inl e), (0, gx_r 144), (1, gx_r 278), (2, .inl g), (3, .inl (e + 1))], [gx_r 278, gx_r 144, .inl 8, .inl (2 * (P 3)), .inl (((g * 4) + 2) * 41 + (e + 1)), gx_r 145], t113, n, 0)) rfl (fun _ => rfl) rfl ?_
  refine ex_go (S := (97, [(8, .inl 2), (7, .inl 2), (6, .inl o), (5, .inl (P 3)), (4, .inl e), (0, gx_r 144), (1, gx_r 278), (2, .inl g), (3, .inl (e + 1))], [.inl g, gx_r 278, gx_r 144, .inl 8, .inl (2 * (P 3)), .inl (((g * 4) + 2) * 41 + (e + 1)), gx_r 145], t113, n, 0)) rfl (fun _ => rfl) rfl ?_
  refine ex_go (S := (99, [(8, .inl 2), (7, .inl 2), (6, .inl o), (5, .inl (P 3)), (4, .inl e), (0, gx_r 144), (1, gx_r 278), (2, .inl g), (3, .inl (e + 1))], [.inl 2, .inl g, gx_r 278, gx_r 144, .inl 8, .inl (2 * (P 3)), .inl (((g * 4) + 2) * 41 + (e + 1)), gx_r 145], t113, n, 0)) rfl (fun _ => rfl) rfl ?_
  refine ex_go (S := (101, [(8, .inl 2), (7, .inl 2), (6, .inl o), (5, .inl (P 3)), (4, .inl e), (0, gx_r 144), (1, gx_r 278), (2, .inl g), (3, .inl (e + 1))], [.inl e, .inl 2, .inl g, gx_r 278, gx_r 144, .inl 8, .inl (2 * (P 3)), .inl (((g * 4) + 2) * 41 + (e + 1)), gx_r 145], t113, n, 0)) rfl (fun _ => rfl) rfl ?_
  obtain ⟨_, r18, rfl⟩ := pc_open278 d n (w := 2) g113 (by first | decide | omega) ((e113 281 (g) (by first | decide | omega)).trans ((e108 281 (g) (by first | decide | omega)).trans ((e104 281 (g) (by first | decide | omega)).trans (k1)))) hq ((e113 145 ((((g + 1) * 4) + 3) * 41 + e) (by first | decide | omega)).trans ((e108 145 ((((g + 1) * 4) + 3) * 41 + e) (by first | decide | omega)).trans ((e104 145 ((((g + 1) * 4) + 3) * 41 + e) (by first | decide | omega)).trans (k2)))) hX ((e113 145 (((g * 4) + 2) * 41 + e) (by first | decide | omega)).trans ((e108 145 (((g * 4) + 2) * 41 + e) (by first | decide | omega)).trans ((e104 145 (((g * 4) + 2) * 41 + e) (by first | decide | omega)).trans (kP 2 (by first | decide | omega))))) (hP 2 (by first | decide | omega))
  refine gx_callo (a := 144) rfl rfl g113 rfl rfl rfl r18 rfl ?_
  show en_ex _ _ _ _ (104, [(8, .inl 2), (7, .inl 2), (6, .inl o), (5, .inl (P 3)), (4, .inl e), (0, gx_r 144), (1, gx_r 278), (2, .inl g), (3, .inl (e + 1))], [.inl (gO q 2 X (P 2)), .inl 8, .inl (2 * (P 3)), .inl (((g * 4) + 2) * 41 + (e + 1)), gx_r 145], t113, n, 0) _
  refine gx_imul rfl (by first | decide | omega) rfl ?_
  refine ex_iadd rfl (by first | decide | omega) rfl ?_
  refine ex_go (S := (108, [(8, .inl 2), (7, .inl 2), (6, .inl o), (5, .inl (P 3)), (4, .inl e), (0, gx_r 144), (1, gx_r 278), (2, .inl g), (3, .inl (e + 1))], [.inl 10, .inl ((2 * (P 3)) + (8 * (gO q 2 X (P 2)))), .inl (((g * 4) + 2) * 41 + (e + 1)), gx_r 145], t113, n, 0)) rfl (fun _ => rfl) rfl ?_
  refine gx_idivn rfl (by first | decide | omega) (by first | decide | omega) (by first | decide | omega) rfl ?_
  refine gx_ap rfl (fun _ => rfl) g113 rfl rfl rfl (show ((g * 4) + 2) * 41 + (e + 1) < 984 from by omega) (gx_run1 (show ((g * 4) + 2) * 41 + (e + 1) < 984 from by omega)) (gx_full (by first | decide | omega)) rfl (fun t119 g119 k119 e119 => ?_)
  have k20 : ai_hv t119 280 g = some (.inl o) := (e119 280 g (by first | decide | omega)).trans k14
  have k21 : ai_hv t119 145 (((g * 4) + 3) * 41 + (e + 1)) = some (.inl (((o * (gO q 0 X (P 0))) + ((10 - o) * (P 3))) / 10)) := (e119 145 (((g * 4) + 3) * 41 + (e + 1)) (by first | decide | omega)).trans k15
  have k22 : ai_hv t119 145 (((g * 4) + 0) * 41 + (e + 1)) = some (.inl (((2 * (P 3)) + (8 * (gO q 1 X (P 1)))) / 10)) := (e119 145 (((g * 4) + 0) * 41 + (e + 1)) (by first | decide | omega)).trans k16
  have k23 : ai_hv t119 145 (((g * 4) + 1) * 41 + (e + 1)) = some (.inl (((2 * (P 3)) + (8 * (gO q 2 X (P 2)))) / 10)) := (e119 145 (((g * 4) + 1) * 41 + (e + 1)) (by first | decide | omega)).trans k113
  refine ex_go (S := (113, [(7, .inl 3), (8, .inl 2), (6, .inl o), (5, .inl (P 3)), (4, .inl e), (0, gx_r 144), (1, gx_r 278), (2, .inl g), (3, .inl (e + 1))], [], t119, n, 0)) rfl (fun _ => rfl) rfl ?_
  refine ex_go (S := (61, [(7, .inl 3), (8, .inl 2), (6, .inl o), (5, .inl (P 3)), (4, .inl e), (0, gx_r 144), (1, gx_r 278), (2, .inl g), (3, .inl (e + 1))], [], t119, n, 0)) rfl (fun _ => rfl) rfl ?_
  refine ex_go (S := (63, [(7, .inl 3), (8, .inl 2), (6, .inl o), (5, .inl (P 3)), (4, .inl e), (0, gx_r 144), (1, gx_r 278), (2, .inl g), (3, .inl (e + 1))], [.inl 3], t119, n, 0)) rfl (fun _ => rfl) rfl ?_
  refine ex_go (S := (64, [(7, .inl 3), (8, .inl 2), (6, .inl o), (5, .inl (P 3)), (4, .inl e), (0, gx_r 144), (1, gx_r 278), (2, .inl g), (3, .inl (e + 1))], [.inl 2, .inl 3], t119, n, 0)) rfl (fun _ => rfl) rfl ?_
  refine ex_go (S := (116, [(7, .inl 3), (8, .inl 2), (6, .inl o), (5, .inl (P 3)), (4, .inl e), (0, gx_r 144), (1, gx_r 278), (2, .inl g), (3, .inl (e + 1))], [], t119, n, 0)) rfl (fun _ => rfl) rfl ?_
  refine ex_ret (r := (none, t119, n, 0)) rfl (fun _ => rfl) ?_
  refine ⟨_, rfl, t119, rfl, g119, (fun c i h => (e119 c i (by first | decide | omega)).trans ((e113 c i (by first | decide | omega)).trans ((e108 c i (by first | decide | omega)).trans (e104 c i (by first | decide | omega))))), fun w hw => ?_⟩
  rcases (show w = 0 ∨ w = 1 ∨ w = 2 ∨ w = 3 by omega) with rfl | rfl | rfl | rfl
  · exact k22
  · exact k23
  · exact k119
  · exact k21
theorem gp_A278 (d n : Nat) {tb : en_H} {K M s : Nat} {Q : en_O → Prop} (hK : K ≤ 5) (hM : M ≤ 40) (hs : s ≤ 3) (kK : ai_hv tb 278 5 = some (.inl K)) (hQ : ∀ t1, ai_HG ah_G t1 → (∀ e, e < M + 1 → ai_hv t1 145 (((K * 4) + s) * 41 + e) = some (.inl 1000000)) ∧ (∀ c i, ¬ (c = 145 ∧ (K * 4 + s) * 41 ≤ i ∧ i < (K * 4 + s) * 41 + 41) → ai_hv t1 c i = ai_hv tb c i) → en_ex none (en_u (d + 5)) (en_code 144) (fun _ => false) (39, [(4, .inl (M + 1)), (3, .inl s), (0, gx_r 144), (1, gx_r 278), (2, .inl M)], [], t1, n, 0) Q) : ∀ j k t0, k + j = M + 1 → ai_HG ah_G t0 → (∀ e, e < k → ai_hv t0 145 (((K * 4) + s) * 41 + e) = some (.inl 1000000)) ∧ (∀ c i, ¬ (c = 145 ∧ (K * 4 + s) * 41 ≤ i ∧ i < (K * 4 + s) * 41 + 41) → ai_hv t0 c i = ai_hv tb c i) → en_ex none (en_u (d + 5)) (en_code 144) (fun _ => false) (10, [(4, .inl k), (3, .inl s), (0, gx_r 144), (1, gx_r 278), (2, .inl M)], [], t0, n, 0) Q := by
  intro j
  induction j with
  | zero =>
    intro k t0 hk g0 i0
    have hk : k = M + 1 := by omega
    subst hk
    have kc := (i0.2 278 5 (by first | decide | omega)).trans kK
    refine ex_go (S := (12, [(4, .inl (M + 1)), (3, .inl s), (0, gx_r 144), (1, gx_r 278), (2, .inl M)], [.inl (M + 1)], t0, n, 0)) rfl (fun _ => rfl) rfl ?_
    refine ex_go (S := (13, [(4, .inl (M + 1)), (3, .inl s), (0, gx_r 144), (1, gx_r 278), (2, .inl M)], [.inl M, .inl (M + 1)], t0, n, 0)) rfl (fun _ => rfl) rfl ?_
    refine gx_2t (c := .gt) rfl (by first | decide | omega) (by first | decide | omega) (show M < M + 1 from by omega) rfl ?_
    exact hQ t0 g0 i0
  | succ j ih =>
    intro k t0 hk g0 i0
    have kc := (i0.2 278 5 (by first | decide | omega)).trans kK
    refine ex_go (S := (12, [(4, .inl k), (3, .inl s), (0, gx_r 144), (1, gx_r 278), (2, .inl M)], [.inl k], t0, n, 0)) rfl (fun _ => rfl) rfl ?_
    refine ex_go (S := (13, [(4, .inl k), (3, .inl s), (0, gx_r 144), (1, gx_r 278), (2, .inl M)], [.inl M, .inl k], t0, n, 0)) rfl (fun _ => rfl) rfl ?_
    refine gx_2f (c := .gt) rfl (by first | decide | omega) (by first | decide | omega) (show ¬ (M < k) from by omega) rfl ?_
    refine ex_go (S := (17, [(4, .inl k), (3, .inl s), (0, gx_r 144), (1, gx_r 278), (2, .inl M)], [gx_r 144], t0, n, 0)) rfl (fun _ => rfl) rfl ?_
    refine gxo_ref (a := 144) (c := 145) rfl g0 rfl rfl rfl rfl rfl ?_
    refine ex_go (S := (21, [(4, .inl k), (3, .inl s), (0, gx_r 144), (1, gx_r 278), (2, .inl M)], [gx_r 278, gx_r 145], t0, n, 0)) rfl (fun _ => rfl) rfl ?_
    refine gxo_get (a := 278) rfl g0 rfl rfl kc rfl ?_
    refine ex_go (S := (25, [(4, .inl k), (3, .inl s), (0, gx_r 144), (1, gx_r 278), (2, .inl M)], [.inl s, .inl K, gx_r 145], t0, n, 0)) rfl (fun _ => rfl) rfl ?_
    refine ex_go (S := (27, [(4, .inl k), (3, .inl s), (0, gx_r 144), (1, gx_r 278), (2, .inl M)], [.inl k, .inl s, .inl K, gx_r 145], t0, n, 0)) rfl (fun _ => rfl) rfl ?_
    obtain ⟨_, r1, rfl⟩ := pc_gapIndex (d + 4) n (t0 := t0) (g := K) (w := s) (e := k) (by first | decide | omega)
    refine ex_stat rfl rfl rfl rfl rfl r1 (Nat.le_refl _) rfl ?_
    show en_ex _ _ _ _ (30, [(4, .inl k), (3, .inl s), (0, gx_r 144), (1, gx_r 278), (2, .inl M)], [.inl (((K * 4) + s) * 41 + k), gx_r 145], t0, n, 0) _
    refine ex_go (S := (32, [(4, .inl k), (3, .inl s), (0, gx_r 144), (1, gx_r 278), (2, .inl M)], [.inl 1000000, .inl (((K * 4) + s) * 41 + k), gx_r 145], t0, n, 0)) rfl (fun _ => rfl) rfl ?_
    refine gx_ap rfl (fun _ => rfl) g0 rfl rfl rfl (show ((K * 4) + s) * 41 + k < 984 from by omega) (gx_run1 (show ((K * 4) + s) * 41 + k < 984 from by omega)) (gx_full (by first | decide | omega)) rfl (fun t102 g102 k102 e102 => ?_)
    have k3 : ai_hv t102 278 5 = some (.inl K) := (e102 278 5 (by first | decide | omega)).trans kc
    refine gx_iinc (i := 4) (k := 1) rfl (fun _ => rfl) (by first | decide | omega) rfl ?_
    show en_ex _ _ _ _ (36, [(4, .inl (k + 1)), (3, .inl s), (0, gx_r 144), (1, gx_r 278), (2, .inl M)], [], t102, n, 0) _
    refine ex_go (S := (10, [(4, .inl (k + 1)), (3, .inl s), (0, gx_r 144), (1, gx_r 278), (2, .inl M)], [], t102, n, 0)) rfl (fun _ => rfl) rfl ?_
    refine ih (k + 1) t102 (by first | decide | omega) g102 ⟨fun e he => ?_, fun c i h => (e102 c i (by first | decide | omega)).trans (i0.2 c i h)⟩
    by_cases e9 : e = k
    · rw [e9]; exact k102
    · exact (e102 145 _ (by first | decide | omega)).trans (i0.1 e (by first | decide | omega))
theorem gp_B278 (d n : Nat) {tb : en_H} {M g : Nat} {Q : en_O → Prop} {o q : Nat} {nx : Nat → Nat} (hg : g ≤ 4) (hM : M ≤ 40) (kO : ai_hv tb 280 g = some (.inl o)) (ho : o ≤ 10) (k1 : ai_hv tb 281 g = some (.inl q)) (hq : q ≤ 10) (kX : ∀ e, e ≤ M → ai_hv tb 145 ((((g + 1) * 4) + 3) * 41 + e) = some (.inl (nx e))) (hX : ∀ e, nx e ≤ 1000000) (hQ : ∀ t1, ai_HG ah_G t1 → (∀ e, e < M + 1 → ∀ w, w ≤ 3 → ai_hv t1 145 (((g * 4) + w) * 41 + e) = some (.inl (gD o q nx e w))) ∧ (∀ c i, ¬ (c = 145 ∧ g * 4 * 41 ≤ i ∧ i < g * 4 * 41 + 164) → ai_hv t1 c i = ai_hv tb c i) → en_ex none (en_u (d + 5)) (en_code 144) (fun _ => false) (107, [(4, .inl (M + 1)), (3, .inl g), (0, gx_r 144), (1, gx_r 278), (2, .inl M)], [], t1, n, 0) Q) : ∀ j k t0, k + j = M + 1 → 1 ≤ k → ai_HG ah_G t0 → (∀ e, e < k → ∀ w, w ≤ 3 → ai_hv t0 145 (((g * 4) + w) * 41 + e) = some (.inl (gD o q nx e w))) ∧ (∀ c i, ¬ (c = 145 ∧ g * 4 * 41 ≤ i ∧ i < g * 4 * 41 + 164) → ai_hv t0 c i = ai_hv tb c i) → en_ex none (en_u (d + 5)) (en_code 144) (fun _ => false) (87, [(4, .inl k), (3, .inl g), (0, gx_r 144), (1, gx_r 278), (2, .inl M)], [], t0, n, 0) Q := by
  intro j
  induction j with
  | zero =>
    intro k t0 hk h1 g0 i0
    have hk : k = M + 1 := by omega
    subst hk
    refine ex_go (S := (89, [(4, .inl (M + 1)), (3, .inl g), (0, gx_r 144), (1, gx_r 278), (2, .inl M)], [.inl (M + 1)], t0, n, 0)) rfl (fun _ => rfl) rfl ?_
    refine ex_go (S := (90, [(4, .inl (M + 1)), (3, .inl g), (0, gx_r 144), (1, gx_r 278), (2, .inl M)], [.inl M, .inl (M + 1)], t0, n, 0)) rfl (fun _ => rfl) rfl ?_
    refine gx_2t (c := .gt) rfl (by first | decide | omega) (by first | decide | omega) (show M < M + 1 from by omega) rfl ?_
    exact hQ t0 g0 i0
  | succ j ih =>
    intro k t0 hk h1 g0 i0
    obtain ⟨e, rfl⟩ : ∃ e, k = e + 1 := ⟨k - 1, by omega⟩
    refine ex_go (S := (89, [(4, .inl (e + 1)), (3, .inl g), (0, gx_r 144), (1, gx_r 278), (2, .inl M)], [.inl (e + 1)], t0, n, 0)) rfl (fun _ => rfl) rfl ?_
    refine ex_go (S := (90, [(4, .inl (e + 1)), (3, .inl g), (0, gx_r 144), (1, gx_r 278), (2, .inl M)], [.inl M, .inl (e + 1)], t0, n, 0)) rfl (fun _ => rfl) rfl ?_
    refine gx_2f (c := .gt) rfl (by first | decide | omega) (by first | decide | omega) (show ¬ (M < e + 1) from by omega) rfl ?_
    refine ex_go (S := (94, [(4, .inl (e + 1)), (3, .inl g), (0, gx_r 144), (1, gx_r 278), (2, .inl M)], [gx_r 144], t0, n, 0)) rfl (fun _ => rfl) rfl ?_
    refine ex_go (S := (95, [(4, .inl (e + 1)), (3, .inl g), (0, gx_r 144), (1, gx_r 278), (2, .inl M)], [gx_r 278, gx_r 144], t0, n, 0)) rfl (fun _ => rfl) rfl ?_
    refine ex_go (S := (96, [(4, .inl (e + 1)), (3, .inl g), (0, gx_r 144), (1, gx_r 278), (2, .inl M)], [.inl g, gx_r 278, gx_r 144], t0, n, 0)) rfl (fun _ => rfl) rfl ?_
    refine ex_go (S := (98, [(4, .inl (e + 1)), (3, .inl g), (0, gx_r 144), (1, gx_r 278), (2, .inl M)], [.inl (e + 1), .inl g, gx_r 278, gx_r 144], t0, n, 0)) rfl (fun _ => rfl) rfl ?_
    obtain ⟨_, r101, t101, rfl, g101, e101, y101⟩ := pc_day278 d n (P := gD o q nx e) g0 (by first | decide | omega) ((i0.2 _ _ (by first | decide | omega)).trans kO) ho ((i0.2 _ _ (by first | decide | omega)).trans k1) hq ((i0.2 _ _ (by first | decide | omega)).trans (kX e (by first | decide | omega))) (hX e) (fun w hw => i0.1 e (by first | decide | omega) w hw) (fun w hw => gD_le ho hX e w)
    refine gx_callo (a := 144) rfl rfl g0 rfl rfl rfl r101 rfl ?_
    show en_ex _ _ _ _ (101, [(4, .inl (e + 1)), (3, .inl g), (0, gx_r 144), (1, gx_r 278), (2, .inl M)], [], t101, n, 0) _
    refine gx_iinc (i := 4) (k := 1) rfl (fun _ => rfl) (by first | decide | omega) rfl ?_
    show en_ex _ _ _ _ (104, [(4, .inl ((e + 1) + 1)), (3, .inl g), (0, gx_r 144), (1, gx_r 278), (2, .inl M)], [], t101, n, 0) _
    refine ex_go (S := (87, [(4, .inl ((e + 1) + 1)), (3, .inl g), (0, gx_r 144), (1, gx_r 278), (2, .inl M)], [], t101, n, 0)) rfl (fun _ => rfl) rfl ?_
    refine ih (e + 1 + 1) t101 (by first | decide | omega) (by first | decide | omega) g101 ⟨fun e1 he w hw => ?_, fun c i h => (e101 c i (by first | decide | omega)).trans (i0.2 c i h)⟩
    by_cases e9 : e1 = e + 1
    · rw [e9]; exact y101 w hw
    · exact (e101 145 _ (by first | decide | omega)).trans (i0.1 e1 (by first | decide | omega) w hw)
theorem gp_C278 (d n : Nat) {tb : en_H} {K M : Nat} {Q : en_O → Prop} {O N : Nat → Nat} (hK : K ≤ 5) (hM : M ≤ 40) (kO : ∀ g, g < K → ai_hv tb 280 g = some (.inl (O g))) (hO : ∀ g, g < K → O g ≤ 10) (kN : ∀ g, g < K → ai_hv tb 281 g = some (.inl (N g))) (hN : ∀ g, g < K → N g ≤ 10) (hQ : ∀ t1 c4, ai_HG ah_G t1 → (∀ g, 0 ≤ g → g ≤ K → ∀ e, e ≤ M → ∀ w, w ≤ 3 → ai_hv t1 145 (((g * 4) + w) * 41 + e) = some (.inl (gR O N K (K - g) e w))) ∧ (∀ c i, c ≠ 145 → ai_hv t1 c i = ai_hv tb c i) → en_ex none (en_u (d + 5)) (en_code 144) (fun _ => false) (113, [(3, .inl 4294967295), (4, .inl c4), (0, gx_r 144), (1, gx_r 278), (2, .inl M)], [], t1, n, 0) Q) : ∀ r t0 c4, r ≤ K → ai_HG ah_G t0 → (∀ g, r ≤ g → g ≤ K → ∀ e, e ≤ M → ∀ w, w ≤ 3 → ai_hv t0 145 (((g * 4) + w) * 41 + e) = some (.inl (gR O N K (K - g) e w))) ∧ (∀ c i, c ≠ 145 → ai_hv t0 c i = ai_hv tb c i) → en_ex none (en_u (d + 5)) (en_code 144) (fun _ => false) (52, [(3, .inl (gz r)), (4, .inl c4), (0, gx_r 144), (1, gx_r 278), (2, .inl M)], [], t0, n, 0) Q := by
  intro r
  induction r with
  | zero =>
    intro t0 c4 hr g0 i0
    show en_ex _ _ _ _ (52, [(3, .inl 4294967295), (4, .inl c4), (0, gx_r 144), (1, gx_r 278), (2, .inl M)], [], t0, n, 0) _
    refine ex_go (S := (53, [(3, .inl 4294967295), (4, .inl c4), (0, gx_r 144), (1, gx_r 278), (2, .inl M)], [.inl 4294967295], t0, n, 0)) rfl (fun _ => rfl) rfl ?_
    refine ex_go (S := (113, [(3, .inl 4294967295), (4, .inl c4), (0, gx_r 144), (1, gx_r 278), (2, .inl M)], [], t0, n, 0)) rfl (fun _ => rfl) rfl ?_
    exact hQ t0 c4 g0 i0
  | succ r ih =>
    intro t0 c4 hr g0 i0
    show en_ex _ _ _ _ (52, [(3, .inl r), (4, .inl c4), (0, gx_r 144), (1, gx_r 278), (2, .inl M)], [], t0, n, 0) _
    refine ex_go (S := (53, [(3, .inl r), (4, .inl c4), (0, gx_r 144), (1, gx_r 278), (2, .inl M)], [.inl r], t0, n, 0)) rfl (fun _ => rfl) rfl ?_
    refine gx_1f (c := .lt) rfl (by first | decide | omega) (show ¬ (r < 0) from by omega) rfl ?_
    refine ex_go (S := (57, [(3, .inl r), (4, .inl c4), (0, gx_r 144), (1, gx_r 278), (2, .inl M)], [.inl 0], t0, n, 0)) rfl (fun _ => rfl) rfl ?_
    refine ex_go (S := (59, [(4, .inl 0), (3, .inl r), (0, gx_r 144), (1, gx_r 278), (2, .inl M)], [], t0, n, 0)) rfl (fun _ => rfl) rfl ?_
    refine ex_go (S := (61, [(4, .inl 0), (3, .inl r), (0, gx_r 144), (1, gx_r 278), (2, .inl M)], [.inl 0], t0, n, 0)) rfl (fun _ => rfl) rfl ?_
    refine ex_go (S := (62, [(4, .inl 0), (3, .inl r), (0, gx_r 144), (1, gx_r 278), (2, .inl M)], [.inl 4, .inl 0], t0, n, 0)) rfl (fun _ => rfl) rfl ?_
    refine ex_go (S := (65, [(4, .inl 0), (3, .inl r), (0, gx_r 144), (1, gx_r 278), (2, .inl M)], [], t0, n, 0)) rfl (fun _ => rfl) rfl ?_
    refine ex_go (S := (66, [(4, .inl 0), (3, .inl r), (0, gx_r 144), (1, gx_r 278), (2, .inl M)], [gx_r 144], t0, n, 0)) rfl (fun _ => rfl) rfl ?_
    refine gxo_ref (a := 144) (c := 145) rfl g0 rfl rfl rfl rfl rfl ?_
    refine ex_go (S := (70, [(4, .inl 0), (3, .inl r), (0, gx_r 144), (1, gx_r 278), (2, .inl M)], [.inl r, gx_r 145], t0, n, 0)) rfl (fun _ => rfl) rfl ?_
    refine ex_go (S := (72, [(4, .inl 0), (3, .inl r), (0, gx_r 144), (1, gx_r 278), (2, .inl M)], [.inl 0, .inl r, gx_r 145], t0, n, 0)) rfl (fun _ => rfl) rfl ?_
    refine ex_go (S := (73, [(4, .inl 0), (3, .inl r), (0, gx_r 144), (1, gx_r 278), (2, .inl M)], [.inl 0, .inl 0, .inl r, gx_r 145], t0, n, 0)) rfl (fun _ => rfl) rfl ?_
    obtain ⟨_, r1, rfl⟩ := pc_gapIndex (d + 4) n (t0 := t0) (g := r) (w := 0) (e := 0) (by first | decide | omega)
    refine ex_stat rfl rfl rfl rfl rfl r1 (Nat.le_refl _) rfl ?_
    show en_ex _ _ _ _ (76, [(4, .inl 0), (3, .inl r), (0, gx_r 144), (1, gx_r 278), (2, .inl M)], [.inl (((r * 4) + 0) * 41 + 0), gx_r 145], t0, n, 0) _
    refine ex_go (S := (77, [(4, .inl 0), (3, .inl r), (0, gx_r 144), (1, gx_r 278), (2, .inl M)], [.inl 0, .inl (((r * 4) + 0) * 41 + 0), gx_r 145], t0, n, 0)) rfl (fun _ => rfl) rfl ?_
    refine gx_ap rfl (fun _ => rfl) g0 rfl rfl rfl (show ((r * 4) + 0) * 41 + 0 < 984 from by omega) (gx_run1 (show ((r * 4) + 0) * 41 + 0 < 984 from by omega)) (gx_full (by first | decide | omega)) rfl (fun t102 g102 k102 e102 => ?_)
    refine ex_go (S := (81, [(4, .inl 1), (3, .inl r), (0, gx_r 144), (1, gx_r 278), (2, .inl M)], [], t102, n, 0)) rfl (fun _ => rfl) rfl ?_
    refine ex_go (S := (59, [(4, .inl 1), (3, .inl r), (0, gx_r 144), (1, gx_r 278), (2, .inl M)], [], t102, n, 0)) rfl (fun _ => rfl) rfl ?_
    refine ex_go (S := (61, [(4, .inl 1), (3, .inl r), (0, gx_r 144), (1, gx_r 278), (2, .inl M)], [.inl 1], t102, n, 0)) rfl (fun _ => rfl) rfl ?_
    refine ex_go (S := (62, [(4, .inl 1), (3, .inl r), (0, gx_r 144), (1, gx_r 278), (2, .inl M)], [.inl 4, .inl 1], t102, n, 0)) rfl (fun _ => rfl) rfl ?_
    refine ex_go (S := (65, [(4, .inl 1), (3, .inl r), (0, gx_r 144), (1, gx_r 278), (2, .inl M)], [], t102, n, 0)) rfl (fun _ => rfl) rfl ?_
    refine ex_go (S := (66, [(4, .inl 1), (3, .inl r), (0, gx_r 144), (1, gx_r 278), (2, .inl M)], [gx_r 144], t102, n, 0)) rfl (fun _ => rfl) rfl ?_
    refine gxo_ref (a := 144) (c := 145) rfl g102 rfl rfl rfl rfl rfl ?_
    refine ex_go (S := (70, [(4, .inl 1), (3, .inl r), (0, gx_r 144), (1, gx_r 278), (2, .inl M)], [.inl r, gx_r 145], t102, n, 0)) rfl (fun _ => rfl) rfl ?_
    refine ex_go (S := (72, [(4, .inl 1), (3, .inl r), (0, gx_r 144), (1, gx_r 278), (2, .inl M)], [.inl 1, .inl r, gx_r 145], t102, n, 0)) rfl (fun _ => rfl) rfl ?_
    refine ex_go (S := (73, [(4, .inl 1), (3, .inl r), (0, gx_r 144), (1, gx_r 278), (2, .inl M)], [.inl 0, .inl 1, .inl r, gx_r 145], t102, n, 0)) rfl (fun _ => rfl) rfl ?_
    obtain ⟨_, r3, rfl⟩ := pc_gapIndex (d + 4) n (t0 := t102) (g := r) (w := 1) (e := 0) (by first | decide | omega)
    refine ex_stat rfl rfl rfl rfl rfl r3 (Nat.le_refl _) rfl ?_
    show en_ex _ _ _ _ (76, [(4, .inl 1), (3, .inl r), (0, gx_r 144), (1, gx_r 278), (2, .inl M)], [.inl (((r * 4) + 1) * 41 + 0), gx_r 145], t102, n, 0) _
    refine ex_go (S := (77, [(4, .inl 1), (3, .inl r), (0, gx_r 144), (1, gx_r 278), (2, .inl M)], [.inl 0, .inl (((r * 4) + 1) * 41 + 0), gx_r 145], t102, n, 0)) rfl (fun _ => rfl) rfl ?_
    refine gx_ap rfl (fun _ => rfl) g102 rfl rfl rfl (show ((r * 4) + 1) * 41 + 0 < 984 from by omega) (gx_run1 (show ((r * 4) + 1) * 41 + 0 < 984 from by omega)) (gx_full (by first | decide | omega)) rfl (fun t104 g104 k104 e104 => ?_)
    have k5 : ai_hv t104 145 (((r * 4) + 0) * 41 + 0) = some (.inl 0) := (e104 145 (((r * 4) + 0) * 41 + 0) (by first | decide | omega)).trans k102
    refine ex_go (S := (81, [(4, .inl 2), (3, .inl r), (0, gx_r 144), (1, gx_r 278), (2, .inl M)], [], t104, n, 0)) rfl (fun _ => rfl) rfl ?_
    refine ex_go (S := (59, [(4, .inl 2), (3, .inl r), (0, gx_r 144), (1, gx_r 278), (2, .inl M)], [], t104, n, 0)) rfl (fun _ => rfl) rfl ?_
    refine ex_go (S := (61, [(4, .inl 2), (3, .inl r), (0, gx_r 144), (1, gx_r 278), (2, .inl M)], [.inl 2], t104, n, 0)) rfl (fun _ => rfl) rfl ?_
    refine ex_go (S := (62, [(4, .inl 2), (3, .inl r), (0, gx_r 144), (1, gx_r 278), (2, .inl M)], [.inl 4, .inl 2], t104, n, 0)) rfl (fun _ => rfl) rfl ?_
    refine ex_go (S := (65, [(4, .inl 2), (3, .inl r), (0, gx_r 144), (1, gx_r 278), (2, .inl M)], [], t104, n, 0)) rfl (fun _ => rfl) rfl ?_
    refine ex_go (S := (66, [(4, .inl 2), (3, .inl r), (0, gx_r 144), (1, gx_r 278), (2, .inl M)], [gx_r 144], t104, n, 0)) rfl (fun _ => rfl) rfl ?_
    refine gxo_ref (a := 144) (c := 145) rfl g104 rfl rfl rfl rfl rfl ?_
    refine ex_go (S := (70, [(4, .inl 2), (3, .inl r), (0, gx_r 144), (1, gx_r 278), (2, .inl M)], [.inl r, gx_r 145], t104, n, 0)) rfl (fun _ => rfl) rfl ?_
    refine ex_go (S := (72, [(4, .inl 2), (3, .inl r), (0, gx_r 144), (1, gx_r 278), (2, .inl M)], [.inl 2, .inl r, gx_r 145], t104, n, 0)) rfl (fun _ => rfl) rfl ?_
    refine ex_go (S := (73, [(4, .inl 2), (3, .inl r), (0, gx_r 144), (1, gx_r 278), (2, .inl M)], [.inl 0, .inl 2, .inl r, gx_r 145], t104, n, 0)) rfl (fun _ => rfl) rfl ?_
    obtain ⟨_, r6, rfl⟩ := pc_gapIndex (d + 4) n (t0 := t104) (g := r) (w := 2) (e := 0) (by first | decide | omega)
    refine ex_stat rfl rfl rfl rfl rfl r6 (Nat.le_refl _) rfl ?_
    show en_ex _ _ _ _ (76, [(4, .inl 2), (3, .inl r), (0, gx_r 144), (1, gx_r 278), (2, .inl M)], [.inl (((r * 4) + 2) * 41 + 0), gx_r 145], t104, n, 0) _
    refine ex_go (S := (77, [(4, .inl 2), (3, .inl r), (0, gx_r 144), (1, gx_r 278), (2, .inl M)], [.inl 0, .inl (((r * 4) + 2) * 41 + 0), gx_r 145], t104, n, 0)) rfl (fun _ => rfl) rfl ?_
    refine gx_ap rfl (fun _ => rfl) g104 rfl rfl rfl (show ((r * 4) + 2) * 41 + 0 < 984 from by omega) (gx_run1 (show ((r * 4) + 2) * 41 + 0 < 984 from by omega)) (gx_full (by first | decide | omega)) rfl (fun t107 g107 k107 e107 => ?_)
    have k8 : ai_hv t107 145 (((r * 4) + 0) * 41 + 0) = some (.inl 0) := (e107 145 (((r * 4) + 0) * 41 + 0) (by first | decide | omega)).trans k5
    have k9 : ai_hv t107 145 (((r * 4) + 1) * 41 + 0) = some (.inl 0) := (e107 145 (((r * 4) + 1) * 41 + 0) (by first | decide | omega)).trans k104
    refine ex_go (S := (81, [(4, .inl 3), (3, .inl r), (0, gx_r 144), (1, gx_r 278), (2, .inl M)], [], t107, n, 0)) rfl (fun _ => rfl) rfl ?_
    refine ex_go (S := (59, [(4, .inl 3), (3, .inl r), (0, gx_r 144), (1, gx_r 278), (2, .inl M)], [], t107, n, 0)) rfl (fun _ => rfl) rfl ?_
    refine ex_go (S := (61, [(4, .inl 3), (3, .inl r), (0, gx_r 144), (1, gx_r 278), (2, .inl M)], [.inl 3], t107, n, 0)) rfl (fun _ => rfl) rfl ?_
    refine ex_go (S := (62, [(4, .inl 3), (3, .inl r), (0, gx_r 144), (1, gx_r 278), (2, .inl M)], [.inl 4, .inl 3], t107, n, 0)) rfl (fun _ => rfl) rfl ?_
    refine ex_go (S := (65, [(4, .inl 3), (3, .inl r), (0, gx_r 144), (1, gx_r 278), (2, .inl M)], [], t107, n, 0)) rfl (fun _ => rfl) rfl ?_
    refine ex_go (S := (66, [(4, .inl 3), (3, .inl r), (0, gx_r 144), (1, gx_r 278), (2, .inl M)], [gx_r 144], t107, n, 0)) rfl (fun _ => rfl) rfl ?_
    refine gxo_ref (a := 144) (c := 145) rfl g107 rfl rfl rfl rfl rfl ?_
    refine ex_go (S := (70, [(4, .inl 3), (3, .inl r), (0, gx_r 144), (1, gx_r 278), (2, .inl M)], [.inl r, gx_r 145], t107, n, 0)) rfl (fun _ => rfl) rfl ?_
    refine ex_go (S := (72, [(4, .inl 3), (3, .inl r), (0, gx_r 144), (1, gx_r 278), (2, .inl M)], [.inl 3, .inl r, gx_r 145], t107, n, 0)) rfl (fun _ => rfl) rfl ?_
    refine ex_go (S := (73, [(4, .inl 3), (3, .inl r), (0, gx_r 144), (1, gx_r 278), (2, .inl M)], [.inl 0, .inl 3, .inl r, gx_r 145], t107, n, 0)) rfl (fun _ => rfl) rfl ?_
    obtain ⟨_, r10, rfl⟩ := pc_gapIndex (d + 4) n (t0 := t107) (g := r) (w := 3) (e := 0) (by first | decide | omega)
    refine ex_stat rfl rfl rfl rfl rfl r10 (Nat.le_refl _) rfl ?_
    show en_ex _ _ _ _ (76, [(4, .inl 3), (3, .inl r), (0, gx_r 144), (1, gx_r 278), (2, .inl M)], [.inl (((r * 4) + 3) * 41 + 0), gx_r 145], t107, n, 0) _
    refine ex_go (S := (77, [(4, .inl 3), (3, .inl r), (0, gx_r 144), (1, gx_r 278), (2, .inl M)], [.inl 0, .inl (((r * 4) + 3) * 41 + 0), gx_r 145], t107, n, 0)) rfl (fun _ => rfl) rfl ?_
    refine gx_ap rfl (fun _ => rfl) g107 rfl rfl rfl (show ((r * 4) + 3) * 41 + 0 < 984 from by omega) (gx_run1 (show ((r * 4) + 3) * 41 + 0 < 984 from by omega)) (gx_full (by first | decide | omega)) rfl (fun t111 g111 k111 e111 => ?_)
    have k12 : ai_hv t111 145 (((r * 4) + 0) * 41 + 0) = some (.inl 0) := (e111 145 (((r * 4) + 0) * 41 + 0) (by first | decide | omega)).trans k8
    have k13 : ai_hv t111 145 (((r * 4) + 1) * 41 + 0) = some (.inl 0) := (e111 145 (((r * 4) + 1) * 41 + 0) (by first | decide | omega)).trans k9
    have k14 : ai_hv t111 145 (((r * 4) + 2) * 41 + 0) = some (.inl 0) := (e111 145 (((r * 4) + 2) * 41 + 0) (by first | decide | omega)).trans k107
    refine ex_go (S := (81, [(4, .inl 4), (3, .inl r), (0, gx_r 144), (1, gx_r 278), (2, .inl M)], [], t111, n, 0)) rfl (fun _ => rfl) rfl ?_
    refine ex_go (S := (59, [(4, .inl 4), (3, .inl r), (0, gx_r 144), (1, gx_r 278), (2, .inl M)], [], t111, n, 0)) rfl (fun _ => rfl) rfl ?_
    refine ex_go (S := (61, [(4, .inl 4), (3, .inl r), (0, gx_r 144), (1, gx_r 278), (2, .inl M)], [.inl 4], t111, n, 0)) rfl (fun _ => rfl) rfl ?_
    refine ex_go (S := (62, [(4, .inl 4), (3, .inl r), (0, gx_r 144), (1, gx_r 278), (2, .inl M)], [.inl 4, .inl 4], t111, n, 0)) rfl (fun _ => rfl) rfl ?_
    refine ex_go (S := (84, [(4, .inl 4), (3, .inl r), (0, gx_r 144), (1, gx_r 278), (2, .inl M)], [], t111, n, 0)) rfl (fun _ => rfl) rfl ?_
    refine ex_go (S := (85, [(4, .inl 4), (3, .inl r), (0, gx_r 144), (1, gx_r 278), (2, .inl M)], [.inl 1], t111, n, 0)) rfl (fun _ => rfl) rfl ?_
    refine ex_go (S := (87, [(4, .inl 1), (3, .inl r), (0, gx_r 144), (1, gx_r 278), (2, .inl M)], [], t111, n, 0)) rfl (fun _ => rfl) rfl ?_
    refine gp_B278 d n (tb := t111) (M := M) (g := r) (o := O r) (q := N r) (nx := fun e => gR O N K (K - (r + 1)) e 3) (by first | decide | omega) hM (((e111 280 r (by first | decide | omega)).trans ((e107 280 r (by first | decide | omega)).trans ((e104 280 r (by first | decide | omega)).trans ((e102 280 r (by first | decide | omega)).trans (i0.2 _ _ (by first | decide | omega)))))).trans (kO r (by first | decide | omega))) (hO r (by first | decide | omega)) (((e111 281 r (by first | decide | omega)).trans ((e107 281 r (by first | decide | omega)).trans ((e104 281 r (by first | decide | omega)).trans ((e102 281 r (by first | decide | omega)).trans (i0.2 _ _ (by first | decide | omega)))))).trans (kN r (by first | decide | omega))) (hN r (by first | decide | omega)) (fun e he => ((e111 145 _ (by first | decide | omega)).trans ((e107 145 _ (by first | decide | omega)).trans ((e104 145 _ (by first | decide | omega)).trans (e102 145 _ (by first | decide | omega))))).trans (i0.1 (r + 1) (by first | decide | omega) (by first | decide | omega) e he 3 (by first | decide | omega))) (fun e => gR_le hO _ (by first | decide | omega) e 3) (fun t115 g115 i115 => ?_) M 1 _ (by first | decide | omega) (by first | decide | omega) g111 ⟨fun e he w hw => ?_, fun _ _ _ => rfl⟩
    · refine gx_iincz (i := 3) rfl (fun _ => rfl) (by first | decide | omega) rfl ?_
      show en_ex _ _ _ _ (110, [(3, .inl (gz r)), (4, .inl (M + 1)), (0, gx_r 144), (1, gx_r 278), (2, .inl M)], [], t115, n, 0) _
      refine ex_go (S := (52, [(3, .inl (gz r)), (4, .inl (M + 1)), (0, gx_r 144), (1, gx_r 278), (2, .inl M)], [], t115, n, 0)) rfl (fun _ => rfl) rfl ?_
      refine ih t115 _ (by first | decide | omega) g115 ⟨fun g1 h1 h2 e he w hw => ?_, fun c i h => (i115.2 c i (by first | decide | omega)).trans (((e111 _ _ (by first | decide | omega)).trans ((e107 _ _ (by first | decide | omega)).trans ((e104 _ _ (by first | decide | omega)).trans (e102 _ _ (by first | decide | omega))))).trans (i0.2 c i h))⟩
      by_cases e9 : g1 = r
      · rw [e9, gR_succ (by first | decide | omega)]; exact i115.1 e (by first | decide | omega) w hw
      · exact (i115.2 145 _ (by first | decide | omega)).trans (((e111 _ _ (by first | decide | omega)).trans ((e107 _ _ (by first | decide | omega)).trans ((e104 _ _ (by first | decide | omega)).trans (e102 _ _ (by first | decide | omega))))).trans (i0.1 g1 (by first | decide | omega) h2 e he w hw))
    · have he : e = 0 := by omega
      subst he
      rcases (show w = 0 ∨ w = 1 ∨ w = 2 ∨ w = 3 by omega) with rfl | rfl | rfl | rfl
      · exact k12
      · exact k13
      · exact k14
      · exact k111
theorem pc_fillGaps278 (d n : Nat) {t0 : en_H} {K M : Nat} (g0 : ai_HG ah_G t0) (kK : ai_hv t0 278 5 = some (.inl K)) {O N : Nat → Nat} (hK : K ≤ 5) (hM : M ≤ 40) (kO : ∀ g, g < K → ai_hv t0 280 g = some (.inl (O g))) (hO : ∀ g, g < K → O g ≤ 10) (kN : ∀ g, g < K → ai_hv t0 281 g = some (.inl (N g))) (hN : ∀ g, g < K → N g ≤ 10) : ∃ r, en_u (d + 6) 144 [gx_r 144, gx_r 278, .inl M] t0 n = some r ∧ ∃ t', r = (none, t', n, 0) ∧ ai_HG ah_G t' ∧ (∀ g, 0 ≤ g → g ≤ K → ∀ e, e ≤ M → ∀ w, w ≤ 3 → ai_hv t' 145 (((g * 4) + w) * 41 + e) = some (.inl (gR O N K (K - g) e w))) ∧ (∀ c i, c ≠ 145 → ai_hv t' c i = ai_hv t0 c i) := by
  refine en_u_ex (d := d + 5) rfl ?_
  show en_ex _ _ _ _ (0, [(0, gx_r 144), (1, gx_r 278), (2, .inl M)], [], t0, n, 0) _
  refine ex_go (S := (1, [(0, gx_r 144), (1, gx_r 278), (2, .inl M)], [.inl 0], t0, n, 0)) rfl (fun _ => rfl) rfl ?_
  refine ex_go (S := (2, [(3, .inl 0), (0, gx_r 144), (1, gx_r 278), (2, .inl M)], [], t0, n, 0)) rfl (fun _ => rfl) rfl ?_
  refine ex_go (S := (3, [(3, .inl 0), (0, gx_r 144), (1, gx_r 278), (2, .inl M)], [.inl 0], t0, n, 0)) rfl (fun _ => rfl) rfl ?_
  refine ex_go (S := (4, [(3, .inl 0), (0, gx_r 144), (1, gx_r 278), (2, .inl M)], [.inl 4, .inl 0], t0, n, 0)) rfl (fun _ => rfl) rfl ?_
  refine ex_go (S := (7, [(3, .inl 0), (0, gx_r 144), (1, gx_r 278), (2, .inl M)], [], t0, n, 0)) rfl (fun _ => rfl) rfl ?_
  refine ex_go (S := (8, [(3, .inl 0), (0, gx_r 144), (1, gx_r 278), (2, .inl M)], [.inl 0], t0, n, 0)) rfl (fun _ => rfl) rfl ?_
  refine ex_go (S := (10, [(4, .inl 0), (3, .inl 0), (0, gx_r 144), (1, gx_r 278), (2, .inl M)], [], t0, n, 0)) rfl (fun _ => rfl) rfl ?_
  refine gp_A278 d n (tb := t0) (K := K) (M := M) (s := 0) hK hM (by first | decide | omega) (kK) (fun t101 g101 i101 => ?_) (M + 1) 0 _ (by first | decide | omega) g0 ⟨fun e he => absurd he (Nat.not_lt_zero e), fun _ _ _ => rfl⟩
  refine ex_go (S := (42, [(3, .inl 1), (4, .inl (M + 1)), (0, gx_r 144), (1, gx_r 278), (2, .inl M)], [], t101, n, 0)) rfl (fun _ => rfl) rfl ?_
  refine ex_go (S := (2, [(3, .inl 1), (4, .inl (M + 1)), (0, gx_r 144), (1, gx_r 278), (2, .inl M)], [], t101, n, 0)) rfl (fun _ => rfl) rfl ?_
  refine ex_go (S := (3, [(3, .inl 1), (4, .inl (M + 1)), (0, gx_r 144), (1, gx_r 278), (2, .inl M)], [.inl 1], t101, n, 0)) rfl (fun _ => rfl) rfl ?_
  refine ex_go (S := (4, [(3, .inl 1), (4, .inl (M + 1)), (0, gx_r 144), (1, gx_r 278), (2, .inl M)], [.inl 4, .inl 1], t101, n, 0)) rfl (fun _ => rfl) rfl ?_
  refine ex_go (S := (7, [(3, .inl 1), (4, .inl (M + 1)), (0, gx_r 144), (1, gx_r 278), (2, .inl M)], [], t101, n, 0)) rfl (fun _ => rfl) rfl ?_
  refine ex_go (S := (8, [(3, .inl 1), (4, .inl (M + 1)), (0, gx_r 144), (1, gx_r 278), (2, .inl M)], [.inl 0], t101, n, 0)) rfl (fun _ => rfl) rfl ?_
  refine ex_go (S := (10, [(4, .inl 0), (3, .inl 1), (0, gx_r 144), (1, gx_r 278), (2, .inl M)], [], t101, n, 0)) rfl (fun _ => rfl) rfl ?_
  refine gp_A278 d n (tb := t101) (K := K) (M := M) (s := 1) hK hM (by first | decide | omega) ((i101.2 278 5 (by first | decide | omega)).trans (kK)) (fun t102 g102 i102 => ?_) (M + 1) 0 _ (by first | decide | omega) g101 ⟨fun e he => absurd he (Nat.not_lt_zero e), fun _ _ _ => rfl⟩
  refine ex_go (S := (42, [(3, .inl 2), (4, .inl (M + 1)), (0, gx_r 144), (1, gx_r 278), (2, .inl M)], [], t102, n, 0)) rfl (fun _ => rfl) rfl ?_
  refine ex_go (S := (2, [(3, .inl 2), (4, .inl (M + 1)), (0, gx_r 144), (1, gx_r 278), (2, .inl M)], [], t102, n, 0)) rfl (fun _ => rfl) rfl ?_
  refine ex_go (S := (3, [(3, .inl 2), (4, .inl (M + 1)), (0, gx_r 144), (1, gx_r 278), (2, .inl M)], [.inl 2], t102, n, 0)) rfl (fun _ => rfl) rfl ?_
  refine ex_go (S := (4, [(3, .inl 2), (4, .inl (M + 1)), (0, gx_r 144), (1, gx_r 278), (2, .inl M)], [.inl 4, .inl 2], t102, n, 0)) rfl (fun _ => rfl) rfl ?_
  refine ex_go (S := (7, [(3, .inl 2), (4, .inl (M + 1)), (0, gx_r 144), (1, gx_r 278), (2, .inl M)], [], t102, n, 0)) rfl (fun _ => rfl) rfl ?_
  refine ex_go (S := (8, [(3, .inl 2), (4, .inl (M + 1)), (0, gx_r 144), (1, gx_r 278), (2, .inl M)], [.inl 0], t102, n, 0)) rfl (fun _ => rfl) rfl ?_
  refine ex_go (S := (10, [(4, .inl 0), (3, .inl 2), (0, gx_r 144), (1, gx_r 278), (2, .inl M)], [], t102, n, 0)) rfl (fun _ => rfl) rfl ?_
  refine gp_A278 d n (tb := t102) (K := K) (M := M) (s := 2) hK hM (by first | decide | omega) ((i102.2 278 5 (by first | decide | omega)).trans ((i101.2 278 5 (by first | decide | omega)).trans (kK))) (fun t103 g103 i103 => ?_) (M + 1) 0 _ (by first | decide | omega) g102 ⟨fun e he => absurd he (Nat.not_lt_zero e), fun _ _ _ => rfl⟩
  refine ex_go (S := (42, [(3, .inl 3), (4, .inl (M + 1)), (0, gx_r 144), (1, gx_r 278), (2, .inl M)], [], t103, n, 0)) rfl (fun _ => rfl) rfl ?_
  refine ex_go (S := (2, [(3, .inl 3), (4, .inl (M + 1)), (0, gx_r 144), (1, gx_r 278), (2, .inl M)], [], t103, n, 0)) rfl (fun _ => rfl) rfl ?_
  refine ex_go (S := (3, [(3, .inl 3), (4, .inl (M + 1)), (0, gx_r 144), (1, gx_r 278), (2, .inl M)], [.inl 3], t103, n, 0)) rfl (fun _ => rfl) rfl ?_
  refine ex_go (S := (4, [(3, .inl 3), (4, .inl (M + 1)), (0, gx_r 144), (1, gx_r 278), (2, .inl M)], [.inl 4, .inl 3], t103, n, 0)) rfl (fun _ => rfl) rfl ?_
  refine ex_go (S := (7, [(3, .inl 3), (4, .inl (M + 1)), (0, gx_r 144), (1, gx_r 278), (2, .inl M)], [], t103, n, 0)) rfl (fun _ => rfl) rfl ?_
  refine ex_go (S := (8, [(3, .inl 3), (4, .inl (M + 1)), (0, gx_r 144), (1, gx_r 278), (2, .inl M)], [.inl 0], t103, n, 0)) rfl (fun _ => rfl) rfl ?_
  refine ex_go (S := (10, [(4, .inl 0), (3, .inl 3), (0, gx_r 144), (1, gx_r 278), (2, .inl M)], [], t103, n, 0)) rfl (fun _ => rfl) rfl ?_
  refine gp_A278 d n (tb := t103) (K := K) (M := M) (s := 3) hK hM (by first | decide | omega) ((i103.2 278 5 (by first | decide | omega)).trans ((i102.2 278 5 (by first | decide | omega)).trans ((i101.2 278 5 (by first | decide | omega)).trans (kK)))) (fun t104 g104 i104 => ?_) (M + 1) 0 _ (by first | decide | omega) g103 ⟨fun e he => absurd he (Nat.not_lt_zero e), fun _ _ _ => rfl⟩
  refine ex_go (S := (42, [(3, .inl 4), (4, .inl (M + 1)), (0, gx_r 144), (1, gx_r 278), (2, .inl M)], [], t104, n, 0)) rfl (fun _ => rfl) rfl ?_
  refine ex_go (S := (2, [(3, .inl 4), (4, .inl (M + 1)), (0, gx_r 144), (1, gx_r 278), (2, .inl M)], [], t104, n, 0)) rfl (fun _ => rfl) rfl ?_
  refine ex_go (S := (3, [(3, .inl 4), (4, .inl (M + 1)), (0, gx_r 144), (1, gx_r 278), (2, .inl M)], [.inl 4], t104, n, 0)) rfl (fun _ => rfl) rfl ?_
  refine ex_go (S := (4, [(3, .inl 4), (4, .inl (M + 1)), (0, gx_r 144), (1, gx_r 278), (2, .inl M)], [.inl 4, .inl 4], t104, n, 0)) rfl (fun _ => rfl) rfl ?_
  refine ex_go (S := (45, [(3, .inl 4), (4, .inl (M + 1)), (0, gx_r 144), (1, gx_r 278), (2, .inl M)], [], t104, n, 0)) rfl (fun _ => rfl) rfl ?_
  refine ex_go (S := (46, [(3, .inl 4), (4, .inl (M + 1)), (0, gx_r 144), (1, gx_r 278), (2, .inl M)], [gx_r 278], t104, n, 0)) rfl (fun _ => rfl) rfl ?_
  refine gxo_get (a := 278) rfl g104 rfl rfl ((i104.2 278 5 (by first | decide | omega)).trans ((i103.2 278 5 (by first | decide | omega)).trans ((i102.2 278 5 (by first | decide | omega)).trans ((i101.2 278 5 (by first | decide | omega)).trans (kK))))) rfl ?_
  refine ex_go (S := (50, [(3, .inl 4), (4, .inl (M + 1)), (0, gx_r 144), (1, gx_r 278), (2, .inl M)], [.inl 1, .inl K], t104, n, 0)) rfl (fun _ => rfl) rfl ?_
  refine gx_isubz rfl (by first | decide | omega) rfl ?_
  refine ex_go (S := (52, [(3, .inl (gz K)), (4, .inl (M + 1)), (0, gx_r 144), (1, gx_r 278), (2, .inl M)], [], t104, n, 0)) rfl (fun _ => rfl) rfl ?_
  refine gp_C278 d n (tb := t0) (K := K) (M := M) hK hM kO hO kN hN (fun t105 c105 g105 i105 => ?_) K _ _ (Nat.le_refl _) g104 ⟨fun g h1 h2 e he w hw => ?_, fun c i h => (i104.2 c i (by first | decide | omega)).trans ((i103.2 c i (by first | decide | omega)).trans ((i102.2 c i (by first | decide | omega)).trans (i101.2 c i (by first | decide | omega))))⟩
  · refine ex_ret (r := (none, t105, n, 0)) rfl (fun _ => rfl) ?_
    exact ⟨_, rfl, t105, rfl, g105, i105⟩
  · have h3 : g = K := by omega
    subst h3
    rw [Nat.sub_self]
    show _ = some (Sum.inl 1000000)
    rcases (show w = 0 ∨ w = 1 ∨ w = 2 ∨ w = 3 by omega) with rfl | rfl | rfl | rfl
    · exact (i104.2 145 _ (by first | decide | omega)).trans ((i103.2 145 _ (by first | decide | omega)).trans ((i102.2 145 _ (by first | decide | omega)).trans (i101.1 e (by first | decide | omega))))
    · exact (i104.2 145 _ (by first | decide | omega)).trans ((i103.2 145 _ (by first | decide | omega)).trans (i102.1 e (by first | decide | omega)))
    · exact (i104.2 145 _ (by first | decide | omega)).trans (i103.1 e (by first | decide | omega))
    · exact i104.1 e (by first | decide | omega)
theorem pc_through257 (d n : Nat) {t0 : en_H} {g e K : Nat} (g0 : ai_HG ah_G t0) (hg : g < 4294967296) (he : e < 4294967296) (kq : ai_hv t0 0 10 = some (gx_r 257)) (kK : ai_hv t0 278 5 = some (.inl K)) {O N : Nat → Nat} (hK : K ≤ 5) (kO : ∀ g, g < K → ai_hv t0 280 g = some (.inl (O g))) (hO : ∀ g, g < K → O g ≤ 10) (kN : ∀ g, g < K → ai_hv t0 281 g = some (.inl (N g))) (hN : ∀ g, g < K → N g ≤ 10) : ∃ r, en_u (d + 7) 71 [gx_r 0, .inl g, .inl e] t0 n = some r ∧ ∃ v t', r = (some (.inl v), t', n, 0) ∧ (∀ c i, c ≠ 145 → ai_hv t' c i = ai_hv t0 c i) ∧ ((g ≤ K ∧ e ≤ 40 → v = gR O N K (K - g) e 3) ∧ (¬ (g ≤ K ∧ e ≤ 40) → v = 4294967295)) := by
  refine en_u_ex (d := d + 6) rfl ?_
  show en_ex _ _ _ _ (0, [(0, gx_r 0), (1, .inl g), (2, .inl e)], [], t0, n, 0) _
  refine ex_go (S := (1, [(0, gx_r 0), (1, .inl g), (2, .inl e)], [.inl g], t0, n, 0)) rfl (fun _ => rfl) rfl ?_
  refine ex_go (S := (2, [(0, gx_r 0), (1, .inl g), (2, .inl e)], [.inl 0, .inl g], t0, n, 0)) rfl (fun _ => rfl) rfl ?_
  refine ex_go (S := (3, [(0, gx_r 0), (1, .inl g), (2, .inl e)], [gx_r 0, .inl 0, .inl g], t0, n, 0)) rfl (fun _ => rfl) rfl ?_
  refine gxo_get (a := 0) rfl g0 rfl rfl kq rfl ?_
  refine gxo_ref (a := 257) (c := 278) rfl g0 rfl rfl rfl rfl rfl ?_
  refine gxo_get (a := 278) rfl g0 rfl rfl kK rfl ?_
  obtain ⟨_, r1, b2, rfl, b2b, q3⟩ := pz_isWithin (d + 5) n (t0 := t0) (x := g) (lo := 0) (hi := K) (by first | decide | omega) (by first | decide | omega) (by first | decide | omega)
  refine ex_stat rfl rfl rfl rfl rfl r1 (Nat.le_refl _) rfl ?_
  show en_ex _ _ _ _ (15, [(0, gx_r 0), (1, .inl g), (2, .inl e)], [.inl b2], t0, n, 0) _
  by_cases hc4 : b2 = 0
  · refine gx_1t (c := .eq) rfl (by first | decide | omega) hc4 rfl ?_
    refine ex_go (S := (29, [(0, gx_r 0), (1, .inl g), (2, .inl e)], [.inl 4294967295], t0, n, 0)) rfl (fun _ => rfl) rfl ?_
    refine ex_ret (r := (some (.inl 4294967295), t0, n, 0)) rfl (fun _ => rfl) ?_
    exact ⟨_, rfl, _, t0, rfl, (fun c i h => rfl), fun h => absurd h (by first | decide | omega), fun _ => rfl⟩
  · refine gx_1f (c := .eq) rfl (by first | decide | omega) hc4 rfl ?_
    refine ex_go (S := (19, [(0, gx_r 0), (1, .inl g), (2, .inl e)], [.inl e], t0, n, 0)) rfl (fun _ => rfl) rfl ?_
    refine ex_go (S := (20, [(0, gx_r 0), (1, .inl g), (2, .inl e)], [.inl 0, .inl e], t0, n, 0)) rfl (fun _ => rfl) rfl ?_
    refine ex_go (S := (22, [(0, gx_r 0), (1, .inl g), (2, .inl e)], [.inl 40, .inl 0, .inl e], t0, n, 0)) rfl (fun _ => rfl) rfl ?_
    obtain ⟨_, r5, b6, rfl, b6b, q7⟩ := pz_isWithin (d + 5) n (t0 := t0) (x := e) (lo := 0) (hi := 40) (by first | decide | omega) (by first | decide | omega) (by first | decide | omega)
    refine ex_stat rfl rfl rfl rfl rfl r5 (Nat.le_refl _) rfl ?_
    show en_ex _ _ _ _ (25, [(0, gx_r 0), (1, .inl g), (2, .inl e)], [.inl b6], t0, n, 0) _
    by_cases hc8 : b6 ≠ 0
    · refine gx_1t (c := .ne) rfl (by first | decide | omega) hc8 rfl ?_
      refine ex_go (S := (31, [(0, gx_r 0), (1, .inl g), (2, .inl e)], [gx_r 0], t0, n, 0)) rfl (fun _ => rfl) rfl ?_
      refine gxo_ref (a := 0) (c := 144) rfl g0 rfl rfl rfl rfl rfl ?_
      refine ex_go (S := (35, [(0, gx_r 0), (1, .inl g), (2, .inl e)], [gx_r 0, gx_r 144], t0, n, 0)) rfl (fun _ => rfl) rfl ?_
      refine gxo_get (a := 0) rfl g0 rfl rfl kq rfl ?_
      refine gxo_ref (a := 257) (c := 278) rfl g0 rfl rfl rfl rfl rfl ?_
      refine ex_go (S := (42, [(0, gx_r 0), (1, .inl g), (2, .inl e)], [.inl e, gx_r 278, gx_r 144], t0, n, 0)) rfl (fun _ => rfl) rfl ?_
      obtain ⟨_, r109, t109, rfl, g109, i109⟩ := pc_fillGaps278 d n (M := e) g0 kK hK (by first | decide | omega) kO hO kN hN
      refine gx_callo (a := 144) rfl rfl g0 rfl rfl rfl r109 rfl ?_
      have k10 : ai_hv t109 0 10 = some (gx_r 257) := (i109.2 0 10 (by first | decide | omega)).trans kq
      have k11 : ai_hv t109 278 5 = some (.inl K) := (i109.2 278 5 (by first | decide | omega)).trans kK
      show en_ex _ _ _ _ (45, [(0, gx_r 0), (1, .inl g), (2, .inl e)], [], t109, n, 0) _
      refine ex_go (S := (46, [(0, gx_r 0), (1, .inl g), (2, .inl e)], [gx_r 0], t109, n, 0)) rfl (fun _ => rfl) rfl ?_
      refine gxo_ref (a := 0) (c := 144) rfl g109 rfl rfl rfl rfl rfl ?_
      refine ex_go (S := (50, [(0, gx_r 0), (1, .inl g), (2, .inl e)], [.inl g, gx_r 144], t109, n, 0)) rfl (fun _ => rfl) rfl ?_
      refine ex_go (S := (51, [(0, gx_r 0), (1, .inl g), (2, .inl e)], [.inl 3, .inl g, gx_r 144], t109, n, 0)) rfl (fun _ => rfl) rfl ?_
      refine ex_go (S := (52, [(0, gx_r 0), (1, .inl g), (2, .inl e)], [.inl e, .inl 3, .inl g, gx_r 144], t109, n, 0)) rfl (fun _ => rfl) rfl ?_
      obtain ⟨_, r12, rfl⟩ := pc_gapChance (d + 4) n (g := g) (w := 3) (e := e) (v := gR O N K (K - g) e 3) g109 (by first | decide | omega) (i109.1 g (by first | decide | omega) (by first | decide | omega) e (by first | decide | omega) 3 (by first | decide | omega))
      refine gx_callo (a := 144) rfl rfl g109 rfl rfl rfl r12 rfl ?_
      show en_ex _ _ _ _ (55, [(0, gx_r 0), (1, .inl g), (2, .inl e)], [.inl (gR O N K (K - g) e 3)], t109, n, 0) _
      refine ex_ret (r := (some (.inl (gR O N K (K - g) e 3)), t109, n, 0)) rfl (fun _ => rfl) ?_
      exact ⟨_, rfl, _, t109, rfl, (fun c i h => i109.2 c i (by first | decide | omega)), fun _ => rfl, fun h => absurd h (by first | decide | omega)⟩
    · refine gx_1f (c := .ne) rfl (by first | decide | omega) hc8 rfl ?_
      refine ex_go (S := (29, [(0, gx_r 0), (1, .inl g), (2, .inl e)], [.inl 4294967295], t0, n, 0)) rfl (fun _ => rfl) rfl ?_
      refine ex_ret (r := (some (.inl 4294967295), t0, n, 0)) rfl (fun _ => rfl) ?_
      exact ⟨_, rfl, _, t0, rfl, (fun c i h => rfl), fun h => absurd h (by first | decide | omega), fun _ => rfl⟩
theorem pc_now257 (d n : Nat) {t0 : en_H} {g x e K : Nat} (g0 : ai_HG ah_G t0) (hg : g < 4294967296) (hx : x < 4294967296) (he : e < 4294967296) (kq : ai_hv t0 0 10 = some (gx_r 257)) (kK : ai_hv t0 278 5 = some (.inl K)) {O N : Nat → Nat} (hK : K ≤ 5) (kO : ∀ g, g < K → ai_hv t0 280 g = some (.inl (O g))) (hO : ∀ g, g < K → O g ≤ 10) (kN : ∀ g, g < K → ai_hv t0 281 g = some (.inl (N g))) (hN : ∀ g, g < K → N g ≤ 10) : ∃ r, en_u (d + 7) 73 [gx_r 0, .inl g, .inl x, .inl e] t0 n = some r ∧ ∃ v t', r = (some (.inl v), t', n, 0) ∧ (∀ c i, c ≠ 145 → ai_hv t' c i = ai_hv t0 c i) ∧ ((g < K ∧ x ≤ 2 ∧ e ≤ 40 → v = if gR O N K (K - g) e x ≤ gG (N g) x (gR O N K (K - (g + 1)) e 3) then 1 else 0) ∧ (¬ (g < K ∧ x ≤ 2 ∧ e ≤ 40) → v = 4294967295)) := by
  refine en_u_ex (d := d + 6) rfl ?_
  show en_ex _ _ _ _ (0, [(0, gx_r 0), (1, .inl g), (2, .inl x), (3, .inl e)], [], t0, n, 0) _
  refine ex_go (S := (1, [(0, gx_r 0), (1, .inl g), (2, .inl x), (3, .inl e)], [gx_r 0], t0, n, 0)) rfl (fun _ => rfl) rfl ?_
  refine gxo_get (a := 0) rfl g0 rfl rfl kq rfl ?_
  refine gxo_ref (a := 257) (c := 278) rfl g0 rfl rfl rfl rfl rfl ?_
  refine ex_go (S := (8, [(0, gx_r 0), (1, .inl g), (2, .inl x), (3, .inl e)], [.inl g, gx_r 278], t0, n, 0)) rfl (fun _ => rfl) rfl ?_
  obtain ⟨_, r1, b2, rfl, b2b, q3⟩ := pz_holds278 (d + 5) n (x := g) g0 (by first | decide | omega) kK (by first | decide | omega)
  refine gx_callo (a := 278) rfl rfl g0 rfl rfl rfl r1 rfl ?_
  show en_ex _ _ _ _ (11, [(0, gx_r 0), (1, .inl g), (2, .inl x), (3, .inl e)], [.inl b2], t0, n, 0) _
  by_cases hc4 : b2 = 0
  · refine gx_1t (c := .eq) rfl (by first | decide | omega) hc4 rfl ?_
    refine ex_go (S := (34, [(0, gx_r 0), (1, .inl g), (2, .inl x), (3, .inl e)], [.inl 4294967295], t0, n, 0)) rfl (fun _ => rfl) rfl ?_
    refine ex_ret (r := (some (.inl 4294967295), t0, n, 0)) rfl (fun _ => rfl) ?_
    exact ⟨_, rfl, _, t0, rfl, (fun c i h => rfl), fun h => absurd h (by first | decide | omega), fun _ => rfl⟩
  · refine gx_1f (c := .eq) rfl (by first | decide | omega) hc4 rfl ?_
    refine ex_go (S := (15, [(0, gx_r 0), (1, .inl g), (2, .inl x), (3, .inl e)], [.inl x], t0, n, 0)) rfl (fun _ => rfl) rfl ?_
    refine ex_go (S := (16, [(0, gx_r 0), (1, .inl g), (2, .inl x), (3, .inl e)], [.inl 0, .inl x], t0, n, 0)) rfl (fun _ => rfl) rfl ?_
    refine ex_go (S := (17, [(0, gx_r 0), (1, .inl g), (2, .inl x), (3, .inl e)], [.inl 2, .inl 0, .inl x], t0, n, 0)) rfl (fun _ => rfl) rfl ?_
    obtain ⟨_, r5, b6, rfl, b6b, q7⟩ := pz_isWithin (d + 5) n (t0 := t0) (x := x) (lo := 0) (hi := 2) (by first | decide | omega) (by first | decide | omega) (by first | decide | omega)
    refine ex_stat rfl rfl rfl rfl rfl r5 (Nat.le_refl _) rfl ?_
    show en_ex _ _ _ _ (20, [(0, gx_r 0), (1, .inl g), (2, .inl x), (3, .inl e)], [.inl b6], t0, n, 0) _
    by_cases hc8 : b6 = 0
    · refine gx_1t (c := .eq) rfl (by first | decide | omega) hc8 rfl ?_
      refine ex_go (S := (34, [(0, gx_r 0), (1, .inl g), (2, .inl x), (3, .inl e)], [.inl 4294967295], t0, n, 0)) rfl (fun _ => rfl) rfl ?_
      refine ex_ret (r := (some (.inl 4294967295), t0, n, 0)) rfl (fun _ => rfl) ?_
      exact ⟨_, rfl, _, t0, rfl, (fun c i h => rfl), fun h => absurd h (by first | decide | omega), fun _ => rfl⟩
    · refine gx_1f (c := .eq) rfl (by first | decide | omega) hc8 rfl ?_
      refine ex_go (S := (24, [(0, gx_r 0), (1, .inl g), (2, .inl x), (3, .inl e)], [.inl e], t0, n, 0)) rfl (fun _ => rfl) rfl ?_
      refine ex_go (S := (25, [(0, gx_r 0), (1, .inl g), (2, .inl x), (3, .inl e)], [.inl 0, .inl e], t0, n, 0)) rfl (fun _ => rfl) rfl ?_
      refine ex_go (S := (27, [(0, gx_r 0), (1, .inl g), (2, .inl x), (3, .inl e)], [.inl 40, .inl 0, .inl e], t0, n, 0)) rfl (fun _ => rfl) rfl ?_
      obtain ⟨_, r9, b10, rfl, b10b, q11⟩ := pz_isWithin (d + 5) n (t0 := t0) (x := e) (lo := 0) (hi := 40) (by first | decide | omega) (by first | decide | omega) (by first | decide | omega)
      refine ex_stat rfl rfl rfl rfl rfl r9 (Nat.le_refl _) rfl ?_
      show en_ex _ _ _ _ (30, [(0, gx_r 0), (1, .inl g), (2, .inl x), (3, .inl e)], [.inl b10], t0, n, 0) _
      by_cases hc12 : b10 ≠ 0
      · refine gx_1t (c := .ne) rfl (by first | decide | omega) hc12 rfl ?_
        refine ex_go (S := (36, [(0, gx_r 0), (1, .inl g), (2, .inl x), (3, .inl e)], [gx_r 0], t0, n, 0)) rfl (fun _ => rfl) rfl ?_
        refine gxo_ref (a := 0) (c := 144) rfl g0 rfl rfl rfl rfl rfl ?_
        refine ex_go (S := (40, [(0, gx_r 0), (1, .inl g), (2, .inl x), (3, .inl e)], [gx_r 0, gx_r 144], t0, n, 0)) rfl (fun _ => rfl) rfl ?_
        refine gxo_get (a := 0) rfl g0 rfl rfl kq rfl ?_
        refine gxo_ref (a := 257) (c := 278) rfl g0 rfl rfl rfl rfl rfl ?_
        refine ex_go (S := (47, [(0, gx_r 0), (1, .inl g), (2, .inl x), (3, .inl e)], [.inl e, gx_r 278, gx_r 144], t0, n, 0)) rfl (fun _ => rfl) rfl ?_
        obtain ⟨_, r113, t113, rfl, g113, i113⟩ := pc_fillGaps278 d n (M := e) g0 kK hK (by first | decide | omega) kO hO kN hN
        refine gx_callo (a := 144) rfl rfl g0 rfl rfl rfl r113 rfl ?_
        have k14 : ai_hv t113 0 10 = some (gx_r 257) := (i113.2 0 10 (by first | decide | omega)).trans kq
        have k15 : ai_hv t113 278 5 = some (.inl K) := (i113.2 278 5 (by first | decide | omega)).trans kK
        show en_ex _ _ _ _ (50, [(0, gx_r 0), (1, .inl g), (2, .inl x), (3, .inl e)], [], t113, n, 0) _
        refine ex_go (S := (51, [(0, gx_r 0), (1, .inl g), (2, .inl x), (3, .inl e)], [gx_r 0], t113, n, 0)) rfl (fun _ => rfl) rfl ?_
        refine gxo_ref (a := 0) (c := 144) rfl g113 rfl rfl rfl rfl rfl ?_
        refine ex_go (S := (55, [(0, gx_r 0), (1, .inl g), (2, .inl x), (3, .inl e)], [gx_r 0, gx_r 144], t113, n, 0)) rfl (fun _ => rfl) rfl ?_
        refine gxo_get (a := 0) rfl g113 rfl rfl k14 rfl ?_
        refine gxo_ref (a := 257) (c := 278) rfl g113 rfl rfl rfl rfl rfl ?_
        refine ex_go (S := (62, [(0, gx_r 0), (1, .inl g), (2, .inl x), (3, .inl e)], [.inl g, gx_r 278, gx_r 144], t113, n, 0)) rfl (fun _ => rfl) rfl ?_
        refine ex_go (S := (63, [(0, gx_r 0), (1, .inl g), (2, .inl x), (3, .inl e)], [.inl x, .inl g, gx_r 278, gx_r 144], t113, n, 0)) rfl (fun _ => rfl) rfl ?_
        refine ex_go (S := (64, [(0, gx_r 0), (1, .inl g), (2, .inl x), (3, .inl e)], [.inl e, .inl x, .inl g, gx_r 278, gx_r 144], t113, n, 0)) rfl (fun _ => rfl) rfl ?_
        have hbx := gR_le (Q := N) hO (K - (g + 1)) (by first | decide | omega) e 3
        have hby := gR_le (Q := N) hO (K - g) (by first | decide | omega) e x
        have hbz := gG_le (q := N g) (w := x) hbx
        obtain ⟨_, r16, rfl⟩ := pc_going278 (d + 3) n (g := g) (w := x) (e := e) g113 (by first | decide | omega) ((i113.2 _ _ (by decide)).trans (kN g (by first | decide | omega))) (hN g (by first | decide | omega)) (i113.1 (g + 1) (by first | decide | omega) (by first | decide | omega) e (by first | decide | omega) 3 (by first | decide | omega)) hbx
        refine gx_callo (a := 144) rfl rfl g113 rfl rfl rfl r16 rfl ?_
        show en_ex _ _ _ _ (67, [(0, gx_r 0), (1, .inl g), (2, .inl x), (3, .inl e)], [.inl (gG (N g) x (gR O N K (K - (g + 1)) e 3))], t113, n, 0) _
        refine ex_go (S := (69, [(4, .inl (gG (N g) x (gR O N K (K - (g + 1)) e 3))), (0, gx_r 0), (1, .inl g), (2, .inl x), (3, .inl e)], [], t113, n, 0)) rfl (fun _ => rfl) rfl ?_
        refine ex_go (S := (71, [(4, .inl (gG (N g) x (gR O N K (K - (g + 1)) e 3))), (0, gx_r 0), (1, .inl g), (2, .inl x), (3, .inl e)], [.inl (gG (N g) x (gR O N K (K - (g + 1)) e 3))], t113, n, 0)) rfl (fun _ => rfl) rfl ?_
        refine ex_go (S := (72, [(4, .inl (gG (N g) x (gR O N K (K - (g + 1)) e 3))), (0, gx_r 0), (1, .inl g), (2, .inl x), (3, .inl e)], [gx_r 0, .inl (gG (N g) x (gR O N K (K - (g + 1)) e 3))], t113, n, 0)) rfl (fun _ => rfl) rfl ?_
        refine gxo_ref (a := 0) (c := 144) rfl g113 rfl rfl rfl rfl rfl ?_
        refine ex_go (S := (76, [(4, .inl (gG (N g) x (gR O N K (K - (g + 1)) e 3))), (0, gx_r 0), (1, .inl g), (2, .inl x), (3, .inl e)], [.inl g, gx_r 144, .inl (gG (N g) x (gR O N K (K - (g + 1)) e 3))], t113, n, 0)) rfl (fun _ => rfl) rfl ?_
        refine ex_go (S := (77, [(4, .inl (gG (N g) x (gR O N K (K - (g + 1)) e 3))), (0, gx_r 0), (1, .inl g), (2, .inl x), (3, .inl e)], [.inl x, .inl g, gx_r 144, .inl (gG (N g) x (gR O N K (K - (g + 1)) e 3))], t113, n, 0)) rfl (fun _ => rfl) rfl ?_
        refine ex_go (S := (78, [(4, .inl (gG (N g) x (gR O N K (K - (g + 1)) e 3))), (0, gx_r 0), (1, .inl g), (2, .inl x), (3, .inl e)], [.inl e, .inl x, .inl g, gx_r 144, .inl (gG (N g) x (gR O N K (K - (g + 1)) e 3))], t113, n, 0)) rfl (fun _ => rfl) rfl ?_
        obtain ⟨_, r17, rfl⟩ := pc_gapChance (d + 4) n (g := g) (w := x) (e := e) (v := gR O N K (K - g) e x) g113 (by first | decide | omega) (i113.1 g (by first | decide | omega) (by first | decide | omega) e (by first | decide | omega) x (by first | decide | omega))
        refine gx_callo (a := 144) rfl rfl g113 rfl rfl rfl r17 rfl ?_
        show en_ex _ _ _ _ (81, [(4, .inl (gG (N g) x (gR O N K (K - (g + 1)) e 3))), (0, gx_r 0), (1, .inl g), (2, .inl x), (3, .inl e)], [.inl (gR O N K (K - g) e x), .inl (gG (N g) x (gR O N K (K - (g + 1)) e 3))], t113, n, 0) _
        by_cases hc18 : gG (N g) x (gR O N K (K - (g + 1)) e 3) < gR O N K (K - g) e x
        · refine gx_2t (c := .lt) rfl (by first | decide | omega) (by first | decide | omega) hc18 rfl ?_
          refine ex_go (S := (89, [(4, .inl (gG (N g) x (gR O N K (K - (g + 1)) e 3))), (0, gx_r 0), (1, .inl g), (2, .inl x), (3, .inl e)], [.inl 0], t113, n, 0)) rfl (fun _ => rfl) rfl ?_
          refine ex_ret (r := (some (.inl 0), t113, n, 0)) rfl (fun _ => rfl) ?_
          exact ⟨_, rfl, _, t113, rfl, (fun c i h => i113.2 c i (by first | decide | omega)), fun _ => by rw [if_neg (by first | decide | omega)], fun h => absurd h (by first | decide | omega)⟩
        · refine gx_2f (c := .lt) rfl (by first | decide | omega) (by first | decide | omega) hc18 rfl ?_
          refine ex_go (S := (85, [(4, .inl (gG (N g) x (gR O N K (K - (g + 1)) e 3))), (0, gx_r 0), (1, .inl g), (2, .inl x), (3, .inl e)], [.inl 1], t113, n, 0)) rfl (fun _ => rfl) rfl ?_
          refine ex_go (S := (89, [(4, .inl (gG (N g) x (gR O N K (K - (g + 1)) e 3))), (0, gx_r 0), (1, .inl g), (2, .inl x), (3, .inl e)], [.inl 1], t113, n, 0)) rfl (fun _ => rfl) rfl ?_
          refine ex_ret (r := (some (.inl 1), t113, n, 0)) rfl (fun _ => rfl) ?_
          exact ⟨_, rfl, _, t113, rfl, (fun c i h => i113.2 c i (by first | decide | omega)), fun _ => by rw [if_pos (by first | decide | omega)], fun h => absurd h (by first | decide | omega)⟩
      · refine gx_1f (c := .ne) rfl (by first | decide | omega) hc12 rfl ?_
        refine ex_go (S := (34, [(0, gx_r 0), (1, .inl g), (2, .inl x), (3, .inl e)], [.inl 4294967295], t0, n, 0)) rfl (fun _ => rfl) rfl ?_
        refine ex_ret (r := (some (.inl 4294967295), t0, n, 0)) rfl (fun _ => rfl) ?_
        exact ⟨_, rfl, _, t0, rfl, (fun c i h => rfl), fun h => absurd h (by first | decide | omega), fun _ => rfl⟩
theorem pe_chanceAt (d n : Nat) {t0 : en_H} {g h e v K : Nat} (g0 : ai_HG ah_G t0) (kK : ai_hv t0 389 6 = some (.inl K)) (hK : K ≤ 5) (hb : g ≤ K ∧ h ≤ 3 ∧ e ≤ 40) (k1 : g = K → v = 1000000) (k2 : g ≠ K → ai_hv t0 405 ((41 * ((4 * g) + h)) + e) = some (.inl v)) : ∃ r, en_u (d + 1) 147 [gx_r 383, .inl g, .inl h, .inl e] t0 n = some r ∧ r = (some (.inl v), t0, n, 0) := by
  refine en_u_ex rfl ?_
  show en_ex _ _ _ _ (0, [(0, gx_r 383), (1, .inl g), (2, .inl h), (3, .inl e)], [], t0, n, 0) _
  refine ex_go (S := (1, [(0, gx_r 383), (1, .inl g), (2, .inl h), (3, .inl e)], [.inl g], t0, n, 0)) rfl (fun _ => rfl) rfl ?_
  refine ex_go (S := (2, [(0, gx_r 383), (1, .inl g), (2, .inl h), (3, .inl e)], [gx_r 383, .inl g], t0, n, 0)) rfl (fun _ => rfl) rfl ?_
  refine gx_ref (c := 389) rfl g0 rfl rfl rfl rfl ?_
  refine ex_go (S := (7, [(0, gx_r 383), (1, .inl g), (2, .inl h), (3, .inl e)], [.inl 6, gx_r 389, .inl g], t0, n, 0)) rfl (fun _ => rfl) rfl ?_
  refine gx_ag (v := .inl K) (cb := fun c => Nat.beq c 0) rfl (fun _ => rfl) g0 rfl rfl kK (by first | decide | omega) rfl ?_
  by_cases hc1 : g ≠ K
  · refine gx_2t (c := .ne) rfl (by first | decide | omega) (by first | decide | omega) hc1 rfl ?_
    refine ex_go (S := (18, [(0, gx_r 383), (1, .inl g), (2, .inl h), (3, .inl e)], [gx_r 383], t0, n, 0)) rfl (fun _ => rfl) rfl ?_
    refine gx_ref (c := 405) rfl g0 rfl rfl rfl rfl ?_
    refine ex_go (S := (23, [(0, gx_r 383), (1, .inl g), (2, .inl h), (3, .inl e)], [.inl 41, gx_r 405], t0, n, 0)) rfl (fun _ => rfl) rfl ?_
    refine ex_go (S := (24, [(0, gx_r 383), (1, .inl g), (2, .inl h), (3, .inl e)], [.inl 4, .inl 41, gx_r 405], t0, n, 0)) rfl (fun _ => rfl) rfl ?_
    refine ex_go (S := (25, [(0, gx_r 383), (1, .inl g), (2, .inl h), (3, .inl e)], [.inl g, .inl 4, .inl 41, gx_r 405], t0, n, 0)) rfl (fun _ => rfl) rfl ?_
    refine gx_imul rfl (by first | decide | omega) rfl ?_
    refine ex_go (S := (27, [(0, gx_r 383), (1, .inl g), (2, .inl h), (3, .inl e)], [.inl h, .inl (4 * g), .inl 41, gx_r 405], t0, n, 0)) rfl (fun _ => rfl) rfl ?_
    refine ex_iadd rfl (by first | decide | omega) rfl ?_
    refine gx_imul rfl (by first | decide | omega) rfl ?_
    refine ex_go (S := (30, [(0, gx_r 383), (1, .inl g), (2, .inl h), (3, .inl e)], [.inl e, .inl (41 * ((4 * g) + h)), gx_r 405], t0, n, 0)) rfl (fun _ => rfl) rfl ?_
    refine ex_iadd rfl (by first | decide | omega) rfl ?_
    refine gx_ag (v := .inl v) (cb := fun c => Nat.beq c 0) rfl (fun _ => rfl) g0 rfl rfl (k2 (by first | decide | omega)) (by first | decide | omega) rfl ?_
    refine ex_ret (r := (some (.inl v), t0, n, 0)) rfl (fun _ => rfl) ?_
    exact ⟨_, rfl, rfl⟩
  · refine gx_2f (c := .ne) rfl (by first | decide | omega) (by first | decide | omega) hc1 rfl ?_
    refine ex_go (S := (14, [(0, gx_r 383), (1, .inl g), (2, .inl h), (3, .inl e)], [.inl 1000000], t0, n, 0)) rfl (fun _ => rfl) rfl ?_
    refine ex_go (S := (32, [(0, gx_r 383), (1, .inl g), (2, .inl h), (3, .inl e)], [.inl 1000000], t0, n, 0)) rfl (fun _ => rfl) rfl ?_
    refine ex_ret (r := (some (.inl 1000000), t0, n, 0)) rfl (fun _ => rfl) ?_
    rw [k1 (by first | decide | omega)]
    exact ⟨_, rfl, rfl⟩
theorem pe_goes (d n : Nat) {t0 : en_H} {g w e q X K : Nat} (g0 : ai_HG ah_G t0) (kK : ai_hv t0 389 6 = some (.inl K)) (hK : K ≤ 5) (hb : g < K ∧ w ≤ 2 ∧ e ≤ 40) (k1 : ai_hv t0 389 (125 + 2 * g) = some (.inl q)) (hq : q ≤ 10) (k2 : g + 1 = K → X = 1000000) (k3 : g + 1 ≠ K → ai_hv t0 405 ((41 * ((4 * (g + 1)) + 0)) + e) = some (.inl X)) (hX : X ≤ 1000000) : ∃ r, en_u (d + 2) 149 [gx_r 383, .inl g, .inl w, .inl e] t0 n = some r ∧ r = (some (.inl (gG q w X)), t0, n, 0) := by
  refine en_u_ex (d := d + 1) rfl ?_
  show en_ex _ _ _ _ (0, [(0, gx_r 383), (1, .inl g), (2, .inl w), (3, .inl e)], [], t0, n, 0) _
  refine ex_go (S := (1, [(0, gx_r 383), (1, .inl g), (2, .inl w), (3, .inl e)], [gx_r 383], t0, n, 0)) rfl (fun _ => rfl) rfl ?_
  refine gx_ref (c := 389) rfl g0 rfl rfl rfl rfl ?_
  refine ex_go (S := (6, [(0, gx_r 383), (1, .inl g), (2, .inl w), (3, .inl e)], [.inl 124, gx_r 389], t0, n, 0)) rfl (fun _ => rfl) rfl ?_
  refine ex_go (S := (7, [(0, gx_r 383), (1, .inl g), (2, .inl w), (3, .inl e)], [.inl 2, .inl 124, gx_r 389], t0, n, 0)) rfl (fun _ => rfl) rfl ?_
  refine ex_go (S := (8, [(0, gx_r 383), (1, .inl g), (2, .inl w), (3, .inl e)], [.inl g, .inl 2, .inl 124, gx_r 389], t0, n, 0)) rfl (fun _ => rfl) rfl ?_
  refine gx_imul rfl (by first | decide | omega) rfl ?_
  refine ex_iadd rfl (by first | decide | omega) rfl ?_
  refine ex_go (S := (11, [(0, gx_r 383), (1, .inl g), (2, .inl w), (3, .inl e)], [.inl 1, .inl (124 + (2 * g)), gx_r 389], t0, n, 0)) rfl (fun _ => rfl) rfl ?_
  refine ex_iadd rfl (by first | decide | omega) rfl ?_
  have k1 : ai_hv t0 389 ((124 + (2 * g)) + 1) = some (.inl q) := by rw [show (124 + (2 * g)) + 1 = 125 + 2 * g by omega]; exact k1
  refine gx_ag (v := .inl q) (cb := fun c => Nat.beq c 0) rfl (fun _ => rfl) g0 rfl rfl k1 (by first | decide | omega) rfl ?_
  refine ex_go (S := (14, [(0, gx_r 383), (1, .inl g), (2, .inl w), (3, .inl e)], [.inl 2, .inl q], t0, n, 0)) rfl (fun _ => rfl) rfl ?_
  refine ex_go (S := (15, [(0, gx_r 383), (1, .inl g), (2, .inl w), (3, .inl e)], [.inl w, .inl 2, .inl q], t0, n, 0)) rfl (fun _ => rfl) rfl ?_
  refine gx_imul rfl (by first | decide | omega) rfl ?_
  rcases Nat.lt_or_ge q (2 * w) with hlt | hge
  · refine gx_isubn rfl (by first | decide | omega) (by first | decide | omega) rfl (fun z2 z2a z2b z2c => ?_)
    refine ex_go (S := (19, [(4, .inl z2), (0, gx_r 383), (1, .inl g), (2, .inl w), (3, .inl e)], [], t0, n, 0)) rfl (fun _ => rfl) rfl ?_
    refine ex_go (S := (21, [(4, .inl z2), (0, gx_r 383), (1, .inl g), (2, .inl w), (3, .inl e)], [.inl z2], t0, n, 0)) rfl (fun _ => rfl) rfl ?_
    refine gx_negf (c := .ge) rfl (by first | decide | omega) (by first | decide | omega) rfl rfl ?_
    refine ex_go (S := (25, [(4, .inl z2), (0, gx_r 383), (1, .inl g), (2, .inl w), (3, .inl e)], [.inl 0], t0, n, 0)) rfl (fun _ => rfl) rfl ?_
    refine ex_go (S := (30, [(4, .inl z2), (0, gx_r 383), (1, .inl g), (2, .inl w), (3, .inl e)], [.inl 0], t0, n, 0)) rfl (fun _ => rfl) rfl ?_
    refine ex_go (S := (32, [(4, .inl 0), (0, gx_r 383), (1, .inl g), (2, .inl w), (3, .inl e)], [], t0, n, 0)) rfl (fun _ => rfl) rfl ?_
    refine ex_go (S := (33, [(4, .inl 0), (0, gx_r 383), (1, .inl g), (2, .inl w), (3, .inl e)], [gx_r 383], t0, n, 0)) rfl (fun _ => rfl) rfl ?_
    refine ex_go (S := (34, [(4, .inl 0), (0, gx_r 383), (1, .inl g), (2, .inl w), (3, .inl e)], [.inl g, gx_r 383], t0, n, 0)) rfl (fun _ => rfl) rfl ?_
    refine ex_go (S := (35, [(4, .inl 0), (0, gx_r 383), (1, .inl g), (2, .inl w), (3, .inl e)], [.inl 1, .inl g, gx_r 383], t0, n, 0)) rfl (fun _ => rfl) rfl ?_
    refine ex_iadd rfl (by first | decide | omega) rfl ?_
    refine ex_go (S := (37, [(4, .inl 0), (0, gx_r 383), (1, .inl g), (2, .inl w), (3, .inl e)], [.inl 0, .inl (g + 1), gx_r 383], t0, n, 0)) rfl (fun _ => rfl) rfl ?_
    refine ex_go (S := (38, [(4, .inl 0), (0, gx_r 383), (1, .inl g), (2, .inl w), (3, .inl e)], [.inl e, .inl 0, .inl (g + 1), gx_r 383], t0, n, 0)) rfl (fun _ => rfl) rfl ?_
    obtain ⟨_, r3, rfl⟩ := pe_chanceAt (d) n (g := g + 1) (h := 0) (e := e) (v := X) g0 (kK) hK (by first | decide | omega) (k2) (k3)
    refine gx_call1 rfl rfl g0 rfl rfl r3 rfl ?_
    show en_ex _ _ _ _ (41, [(4, .inl 0), (0, gx_r 383), (1, .inl g), (2, .inl w), (3, .inl e)], [.inl X], t0, n, 0) _
    refine ex_go (S := (42, [(4, .inl 0), (0, gx_r 383), (1, .inl g), (2, .inl w), (3, .inl e)], [.inr (.inl ((nI X).toInt64.toBitVec.toNat))], t0, n, 0)) rfl (fun _ => rfl) rfl ?_
    rw [sp_i2l (show X < 2147483648 from by omega)]
    refine ex_go (S := (44, [(4, .inl 0), (0, gx_r 383), (1, .inl g), (2, .inl w), (3, .inl e)], [.inl 10, .inr (.inl X)], t0, n, 0)) rfl (fun _ => rfl) rfl ?_
    refine ex_go (S := (46, [(4, .inl 0), (0, gx_r 383), (1, .inl g), (2, .inl w), (3, .inl e)], [.inl 0, .inl 10, .inr (.inl X)], t0, n, 0)) rfl (fun _ => rfl) rfl ?_
    refine ex_go (S := (47, [(4, .inl 0), (0, gx_r 383), (1, .inl g), (2, .inl w), (3, .inl e)], [.inl 10, .inr (.inl X)], t0, n, 0)) rfl (fun _ => rfl) rfl ?_
    refine ex_go (S := (48, [(4, .inl 0), (0, gx_r 383), (1, .inl g), (2, .inl w), (3, .inl e)], [.inr (.inl ((nI 10).toInt64.toBitVec.toNat)), .inr (.inl X)], t0, n, 0)) rfl (fun _ => rfl) rfl ?_
    rw [sp_i2l (show 10 < 2147483648 from by omega)]
    have hm : X * 10 ≤ 1000000 * 10 := Nat.mul_le_mul hX (by first | decide | omega)
    refine ex_go (S := (49, [(4, .inl 0), (0, gx_r 383), (1, .inl g), (2, .inl w), (3, .inl e)], [.inr (.inl ((lN X * lN 10).toBitVec.toNat))], t0, n, 0)) rfl (fun _ => rfl) rfl ?_
    rw [sp_lmul (show X * 10 < 18446744073709551616 from by omega)]
    refine ex_go (S := (52, [(4, .inl 0), (0, gx_r 383), (1, .inl g), (2, .inl w), (3, .inl e)], [.inr (.inl 10), .inr (.inl (X * 10))], t0, n, 0)) rfl (fun _ => rfl) rfl ?_
    refine gx_ldivn rfl (by first | decide | omega) (by first | decide | omega) (by first | decide | omega) rfl ?_
    refine ex_go (S := (54, [(4, .inl 0), (0, gx_r 383), (1, .inl g), (2, .inl w), (3, .inl e)], [.inl ((lN ((X * 10) / 10)).toInt32.toBitVec.toNat)], t0, n, 0)) rfl (fun _ => rfl) rfl ?_
    rw [zk_l2i (show (X * 10) / 10 < 2147483648 from by omega)]
    refine ex_ret (r := (some (.inl ((X * 10) / 10)), t0, n, 0)) rfl (fun _ => rfl) ?_
    refine ⟨_, rfl, ?_⟩
    unfold gG
    have h9 : q - 2 * w = 0 := by omega
    rw [h9, Nat.sub_zero, Nat.mul_comm]
  · refine gx_isub rfl (by first | decide | omega) (by first | decide | omega) rfl ?_
    refine ex_go (S := (19, [(4, .inl (q - (2 * w))), (0, gx_r 383), (1, .inl g), (2, .inl w), (3, .inl e)], [], t0, n, 0)) rfl (fun _ => rfl) rfl ?_
    refine ex_go (S := (21, [(4, .inl (q - (2 * w))), (0, gx_r 383), (1, .inl g), (2, .inl w), (3, .inl e)], [.inl (q - (2 * w))], t0, n, 0)) rfl (fun _ => rfl) rfl ?_
    refine gx_1t (c := .ge) rfl (by first | decide | omega) (show 0 ≤ q - (2 * w) from by omega) rfl ?_
    refine ex_go (S := (30, [(4, .inl (q - (2 * w))), (0, gx_r 383), (1, .inl g), (2, .inl w), (3, .inl e)], [.inl (q - (2 * w))], t0, n, 0)) rfl (fun _ => rfl) rfl ?_
    refine ex_go (S := (32, [(4, .inl (q - (2 * w))), (0, gx_r 383), (1, .inl g), (2, .inl w), (3, .inl e)], [], t0, n, 0)) rfl (fun _ => rfl) rfl ?_
    refine ex_go (S := (33, [(4, .inl (q - (2 * w))), (0, gx_r 383), (1, .inl g), (2, .inl w), (3, .inl e)], [gx_r 383], t0, n, 0)) rfl (fun _ => rfl) rfl ?_
    refine ex_go (S := (34, [(4, .inl (q - (2 * w))), (0, gx_r 383), (1, .inl g), (2, .inl w), (3, .inl e)], [.inl g, gx_r 383], t0, n, 0)) rfl (fun _ => rfl) rfl ?_
    refine ex_go (S := (35, [(4, .inl (q - (2 * w))), (0, gx_r 383), (1, .inl g), (2, .inl w), (3, .inl e)], [.inl 1, .inl g, gx_r 383], t0, n, 0)) rfl (fun _ => rfl) rfl ?_
    refine ex_iadd rfl (by first | decide | omega) rfl ?_
    refine ex_go (S := (37, [(4, .inl (q - (2 * w))), (0, gx_r 383), (1, .inl g), (2, .inl w), (3, .inl e)], [.inl 0, .inl (g + 1), gx_r 383], t0, n, 0)) rfl (fun _ => rfl) rfl ?_
    refine ex_go (S := (38, [(4, .inl (q - (2 * w))), (0, gx_r 383), (1, .inl g), (2, .inl w), (3, .inl e)], [.inl e, .inl 0, .inl (g + 1), gx_r 383], t0, n, 0)) rfl (fun _ => rfl) rfl ?_
    obtain ⟨_, r4, rfl⟩ := pe_chanceAt (d) n (g := g + 1) (h := 0) (e := e) (v := X) g0 (kK) hK (by first | decide | omega) (k2) (k3)
    refine gx_call1 rfl rfl g0 rfl rfl r4 rfl ?_
    show en_ex _ _ _ _ (41, [(4, .inl (q - (2 * w))), (0, gx_r 383), (1, .inl g), (2, .inl w), (3, .inl e)], [.inl X], t0, n, 0) _
    refine ex_go (S := (42, [(4, .inl (q - (2 * w))), (0, gx_r 383), (1, .inl g), (2, .inl w), (3, .inl e)], [.inr (.inl ((nI X).toInt64.toBitVec.toNat))], t0, n, 0)) rfl (fun _ => rfl) rfl ?_
    rw [sp_i2l (show X < 2147483648 from by omega)]
    refine ex_go (S := (44, [(4, .inl (q - (2 * w))), (0, gx_r 383), (1, .inl g), (2, .inl w), (3, .inl e)], [.inl 10, .inr (.inl X)], t0, n, 0)) rfl (fun _ => rfl) rfl ?_
    refine ex_go (S := (46, [(4, .inl (q - (2 * w))), (0, gx_r 383), (1, .inl g), (2, .inl w), (3, .inl e)], [.inl (q - (2 * w)), .inl 10, .inr (.inl X)], t0, n, 0)) rfl (fun _ => rfl) rfl ?_
    refine gx_isub rfl (by first | decide | omega) (by first | decide | omega) rfl ?_
    refine ex_go (S := (48, [(4, .inl (q - (2 * w))), (0, gx_r 383), (1, .inl g), (2, .inl w), (3, .inl e)], [.inr (.inl ((nI (10 - (q - (2 * w)))).toInt64.toBitVec.toNat)), .inr (.inl X)], t0, n, 0)) rfl (fun _ => rfl) rfl ?_
    rw [sp_i2l (show 10 - (q - (2 * w)) < 2147483648 from by omega)]
    have hm : X * (10 - (q - (2 * w))) ≤ 1000000 * 10 := Nat.mul_le_mul hX (by first | decide | omega)
    refine ex_go (S := (49, [(4, .inl (q - (2 * w))), (0, gx_r 383), (1, .inl g), (2, .inl w), (3, .inl e)], [.inr (.inl ((lN X * lN (10 - (q - (2 * w)))).toBitVec.toNat))], t0, n, 0)) rfl (fun _ => rfl) rfl ?_
    rw [sp_lmul (show X * (10 - (q - (2 * w))) < 18446744073709551616 from by omega)]
    refine ex_go (S := (52, [(4, .inl (q - (2 * w))), (0, gx_r 383), (1, .inl g), (2, .inl w), (3, .inl e)], [.inr (.inl 10), .inr (.inl (X * (10 - (q - (2 * w)))))], t0, n, 0)) rfl (fun _ => rfl) rfl ?_
    refine gx_ldivn rfl (by first | decide | omega) (by first | decide | omega) (by first | decide | omega) rfl ?_
    refine ex_go (S := (54, [(4, .inl (q - (2 * w))), (0, gx_r 383), (1, .inl g), (2, .inl w), (3, .inl e)], [.inl ((lN ((X * (10 - (q - (2 * w)))) / 10)).toInt32.toBitVec.toNat)], t0, n, 0)) rfl (fun _ => rfl) rfl ?_
    rw [zk_l2i (show (X * (10 - (q - (2 * w)))) / 10 < 2147483648 from by omega)]
    refine ex_ret (r := (some (.inl ((X * (10 - (q - (2 * w)))) / 10)), t0, n, 0)) rfl (fun _ => rfl) ?_
    refine ⟨_, rfl, ?_⟩
    unfold gG
    rw [Nat.mul_comm]
theorem pe_openDay (d n : Nat) {t0 : en_H} {g w e q X Y K : Nat} (g0 : ai_HG ah_G t0) (kK : ai_hv t0 389 6 = some (.inl K)) (hK : K ≤ 5) (hb : g < K ∧ w ≤ 2 ∧ e ≤ 40) (k1 : ai_hv t0 389 (125 + 2 * g) = some (.inl q)) (hq : q ≤ 10) (k2 : g + 1 = K → X = 1000000) (k3 : g + 1 ≠ K → ai_hv t0 405 ((41 * ((4 * (g + 1)) + 0)) + e) = some (.inl X)) (hX : X ≤ 1000000) (k4 : ai_hv t0 405 ((41 * ((4 * g) + (1 + w))) + e) = some (.inl Y)) (hY : Y ≤ 1000000) : ∃ r, en_u (d + 3) 214 [gx_r 383, .inl g, .inl w, .inl e] t0 n = some r ∧ r = (some (.inl (gO q w X Y)), t0, n, 0) := by
  refine en_u_ex (d := d + 2) rfl ?_
  show en_ex _ _ _ _ (0, [(0, gx_r 383), (1, .inl g), (2, .inl w), (3, .inl e)], [], t0, n, 0) _
  have hgl := gG_le (q := q) (w := w) hX
  refine ex_go (S := (1, [(0, gx_r 383), (1, .inl g), (2, .inl w), (3, .inl e)], [gx_r 383], t0, n, 0)) rfl (fun _ => rfl) rfl ?_
  refine ex_go (S := (2, [(0, gx_r 383), (1, .inl g), (2, .inl w), (3, .inl e)], [.inl g, gx_r 383], t0, n, 0)) rfl (fun _ => rfl) rfl ?_
  refine ex_go (S := (3, [(0, gx_r 383), (1, .inl g), (2, .inl w), (3, .inl e)], [.inl w, .inl g, gx_r 383], t0, n, 0)) rfl (fun _ => rfl) rfl ?_
  refine ex_go (S := (4, [(0, gx_r 383), (1, .inl g), (2, .inl w), (3, .inl e)], [.inl e, .inl w, .inl g, gx_r 383], t0, n, 0)) rfl (fun _ => rfl) rfl ?_
  obtain ⟨_, r1, rfl⟩ := pe_goes d n g0 kK hK hb k1 hq k2 k3 hX
  refine gx_call1 rfl rfl g0 rfl rfl r1 rfl ?_
  show en_ex _ _ _ _ (7, [(0, gx_r 383), (1, .inl g), (2, .inl w), (3, .inl e)], [.inl (gG q w X)], t0, n, 0) _
  refine ex_go (S := (9, [(4, .inl (gG q w X)), (0, gx_r 383), (1, .inl g), (2, .inl w), (3, .inl e)], [], t0, n, 0)) rfl (fun _ => rfl) rfl ?_
  refine ex_go (S := (10, [(4, .inl (gG q w X)), (0, gx_r 383), (1, .inl g), (2, .inl w), (3, .inl e)], [gx_r 383], t0, n, 0)) rfl (fun _ => rfl) rfl ?_
  refine ex_go (S := (11, [(4, .inl (gG q w X)), (0, gx_r 383), (1, .inl g), (2, .inl w), (3, .inl e)], [.inl g, gx_r 383], t0, n, 0)) rfl (fun _ => rfl) rfl ?_
  refine ex_go (S := (12, [(4, .inl (gG q w X)), (0, gx_r 383), (1, .inl g), (2, .inl w), (3, .inl e)], [.inl 1, .inl g, gx_r 383], t0, n, 0)) rfl (fun _ => rfl) rfl ?_
  refine ex_go (S := (13, [(4, .inl (gG q w X)), (0, gx_r 383), (1, .inl g), (2, .inl w), (3, .inl e)], [.inl w, .inl 1, .inl g, gx_r 383], t0, n, 0)) rfl (fun _ => rfl) rfl ?_
  refine ex_iadd rfl (by first | decide | omega) rfl ?_
  refine ex_go (S := (15, [(4, .inl (gG q w X)), (0, gx_r 383), (1, .inl g), (2, .inl w), (3, .inl e)], [.inl e, .inl (1 + w), .inl g, gx_r 383], t0, n, 0)) rfl (fun _ => rfl) rfl ?_
  obtain ⟨_, r2, rfl⟩ := pe_chanceAt (d + 1) n (g := g) (h := 1 + w) (e := e) (v := Y) g0 (kK) hK (by first | decide | omega) (fun h => by omega) (fun _ => k4)
  refine gx_call1 rfl rfl g0 rfl rfl r2 rfl ?_
  show en_ex _ _ _ _ (18, [(4, .inl (gG q w X)), (0, gx_r 383), (1, .inl g), (2, .inl w), (3, .inl e)], [.inl Y], t0, n, 0) _
  refine ex_go (S := (20, [(5, .inl Y), (4, .inl (gG q w X)), (0, gx_r 383), (1, .inl g), (2, .inl w), (3, .inl e)], [], t0, n, 0)) rfl (fun _ => rfl) rfl ?_
  refine ex_go (S := (22, [(5, .inl Y), (4, .inl (gG q w X)), (0, gx_r 383), (1, .inl g), (2, .inl w), (3, .inl e)], [.inl (gG q w X)], t0, n, 0)) rfl (fun _ => rfl) rfl ?_
  refine ex_go (S := (24, [(5, .inl Y), (4, .inl (gG q w X)), (0, gx_r 383), (1, .inl g), (2, .inl w), (3, .inl e)], [.inl Y, .inl (gG q w X)], t0, n, 0)) rfl (fun _ => rfl) rfl ?_
  by_cases hc3 : gG q w X ≤ Y
  · refine gx_2t (c := .le) rfl (by first | decide | omega) (by first | decide | omega) hc3 rfl ?_
    refine ex_go (S := (34, [(5, .inl Y), (4, .inl (gG q w X)), (0, gx_r 383), (1, .inl g), (2, .inl w), (3, .inl e)], [.inl Y], t0, n, 0)) rfl (fun _ => rfl) rfl ?_
    refine ex_ret (r := (some (.inl Y), t0, n, 0)) rfl (fun _ => rfl) ?_
    refine ⟨_, rfl, ?_⟩
    unfold gO
    rw [Nat.max_eq_right (by first | decide | omega)]
  · refine gx_2f (c := .le) rfl (by first | decide | omega) (by first | decide | omega) hc3 rfl ?_
    refine ex_go (S := (29, [(5, .inl Y), (4, .inl (gG q w X)), (0, gx_r 383), (1, .inl g), (2, .inl w), (3, .inl e)], [.inl (gG q w X)], t0, n, 0)) rfl (fun _ => rfl) rfl ?_
    refine ex_go (S := (34, [(5, .inl Y), (4, .inl (gG q w X)), (0, gx_r 383), (1, .inl g), (2, .inl w), (3, .inl e)], [.inl (gG q w X)], t0, n, 0)) rfl (fun _ => rfl) rfl ?_
    refine ex_ret (r := (some (.inl (gG q w X)), t0, n, 0)) rfl (fun _ => rfl) ?_
    refine ⟨_, rfl, ?_⟩
    unfold gO
    rw [Nat.max_eq_left (by first | decide | omega)]
noncomputable def rh (w : Nat) : Nat := if w = 3 then 0 else 1 + w
theorem rh_le {w : Nat} (h : w ≤ 3) : rh w ≤ 3 := by unfold rh; split <;> omega
theorem rh_inj {w v : Nat} (h : w ≤ 3) (h2 : v ≤ 3) (e : rh w = rh v) : w = v := by unfold rh at e; split at e <;> split at e <;> omega
theorem gl_B (d n : Nat) {tb : en_H} {K g : Nat} {Q : en_O → Prop} {o q : Nat} {nx : Nat → Nat} (kK : ai_hv tb 389 6 = some (.inl K)) (hK : K ≤ 5) (hg : g < K) (ho : o ≤ 10) (k1 : ai_hv tb 389 (125 + 2 * g) = some (.inl q)) (hq : q ≤ 10) (kX1 : g + 1 = K → ∀ e, nx e = 1000000) (kX2 : g + 1 ≠ K → ∀ e, e ≤ 40 → ai_hv tb 405 ((41 * ((4 * (g + 1)) + 0)) + e) = some (.inl (nx e))) (hX : ∀ e, nx e ≤ 1000000) (hQ : ∀ t1 (lv : en_L), en_ld lv 0 = some (gx_r 383) → en_ld lv 1 = some (.inl g) → ai_HG ah_G t1 → (∀ e, e < 41 → ∀ w, w ≤ 3 → ai_hv t1 405 ((41 * ((4 * g) + rh w)) + e) = some (.inl (gD o q nx e w))) ∧ (∀ c i, ¬ (c = 405 ∧ 164 * g ≤ i ∧ i < 164 * g + 164) → ai_hv t1 c i = ai_hv tb c i) → en_ex none (en_u (d + 3)) (en_code 146) (fun _ => false) (194, lv, [], t1, n, 0) Q) : ∀ j k t0 (lv : en_L) (h0 : en_ld lv 0 = some (gx_r 383)) (h1 : en_ld lv 1 = some (.inl g)) (h2 : en_ld lv 2 = some (.inl o)) (h3 : en_ld lv 3 = some (.inl k)), k + j = 41 → 1 ≤ k → ai_HG ah_G t0 → (∀ e, e < k → ∀ w, w ≤ 3 → ai_hv t0 405 ((41 * ((4 * g) + rh w)) + e) = some (.inl (gD o q nx e w))) ∧ (∀ c i, ¬ (c = 405 ∧ 164 * g ≤ i ∧ i < 164 * g + 164) → ai_hv t0 c i = ai_hv tb c i) → en_ex none (en_u (d + 3)) (en_code 146) (fun _ => false) (55, lv, [], t0, n, 0) Q := by
  intro j
  induction j with
  | zero =>
    intro k t0 lv h0 h1 h2 h3 hk h9 g0 i0
    have hk : k = 41 := by omega
    subst hk
    refine gx_ld (i := 3) (d := 0) (v := .inl 41) rfl (fun _ => rfl) h3 rfl rfl ?_
    refine ex_go (S := (58, lv, [.inl 41, .inl 41], t0, n, 0)) rfl (fun _ => rfl) rfl ?_
    refine ex_go (S := (194, lv, [], t0, n, 0)) rfl (fun _ => rfl) rfl ?_
    exact hQ t0 lv h0 h1 g0 i0
  | succ j ih =>
    intro k t0 lv h0 h1 h2 h3 hk h9 g0 i0
    obtain ⟨e, rfl⟩ : ∃ e, k = e + 1 := ⟨k - 1, by omega⟩
    have hP : ∀ w, gD o q nx e w ≤ 1000000 := fun w => gD_le ho hX e w
    have hp3 := hP 3
    have hxe := hX e
    have ho0 := gO_le (q := q) (w := 0) hxe (hP 0)
    have ho1 := gO_le (q := q) (w := 1) hxe (hP 1)
    have ho2 := gO_le (q := q) (w := 2) hxe (hP 2)
    have hm1 := Nat.mul_le_mul ho ho0
    have hm2 := Nat.mul_le_mul (show 10 - o ≤ 10 by omega) hp3
    refine gx_ld (i := 3) (d := 0) (v := .inl (e + 1)) rfl (fun _ => rfl) h3 rfl rfl ?_
    refine ex_go (S := (58, lv, [.inl 41, .inl (e + 1)], t0, n, 0)) rfl (fun _ => rfl) rfl ?_
    refine gx_2f (c := .ge) rfl (by first | decide | omega) (by first | decide | omega) (show ¬ (41 ≤ e + 1) from by omega) rfl ?_
    refine gx_ld (i := 0) (d := 2) (v := gx_r 383) rfl (fun _ => rfl) h0 rfl rfl ?_
    refine gx_ld (i := 1) (d := 0) (v := .inl g) rfl (fun _ => rfl) h1 rfl rfl ?_
    refine ex_go (S := (64, lv, [.inl 0, .inl g, gx_r 383], t0, n, 0)) rfl (fun _ => rfl) rfl ?_
    refine gx_ld (i := 3) (d := 0) (v := .inl (e + 1)) rfl (fun _ => rfl) h3 rfl rfl ?_
    refine ex_go (S := (66, lv, [.inl 1, .inl (e + 1), .inl 0, .inl g, gx_r 383], t0, n, 0)) rfl (fun _ => rfl) rfl ?_
    refine gx_isub rfl (by first | decide | omega) (by first | decide | omega) rfl ?_
    show en_ex _ _ _ _ (67, lv, [.inl e, .inl 0, .inl g, gx_r 383], t0, n, 0) _
    obtain ⟨_, r1, rfl⟩ := pe_chanceAt (d + 2) n (g := g) (h := 0) (e := e) (v := gD o q nx e 3) g0 ((i0.2 389 6 (by first | decide | omega)).trans kK) hK (by first | decide | omega) (fun h => by omega) (fun _ => i0.1 e (by first | decide | omega) 3 (by first | decide | omega))
    refine gx_call1 rfl rfl g0 rfl rfl r1 rfl ?_
    show en_ex _ _ _ _ (70, lv, [.inl (gD o q nx e 3)], t0, n, 0) _
    refine ex_go (S := (71, lv, [.inr (.inl ((nI (gD o q nx e 3)).toInt64.toBitVec.toNat))], t0, n, 0)) rfl (fun _ => rfl) rfl ?_
    rw [sp_i2l (show gD o q nx e 3 < 2147483648 from by omega)]
    refine gx_sto (i := 4) (d := 1) rfl (fun _ => rfl) rfl rfl (fun l2 hl2 ml2 => ?_)
    have l2_0 : en_ld l2 0 = some (gx_r 383) := ml2 0 _ h0 rfl
    have l2_1 : en_ld l2 1 = some (.inl g) := ml2 1 _ h1 rfl
    have l2_2 : en_ld l2 2 = some (.inl o) := ml2 2 _ h2 rfl
    have l2_3 : en_ld l2 3 = some (.inl (e + 1)) := ml2 3 _ h3 rfl
    refine gx_ld (i := 0) (d := 2) (v := gx_r 383) rfl (fun _ => rfl) l2_0 rfl rfl ?_
    refine gx_ref (c := 405) rfl g0 rfl rfl rfl rfl ?_
    refine ex_go (S := (80, l2, [.inl 164, gx_r 405], t0, n, 0)) rfl (fun _ => rfl) rfl ?_
    refine gx_ld (i := 1) (d := 0) (v := .inl g) rfl (fun _ => rfl) l2_1 rfl rfl ?_
    refine gx_imul rfl (by first | decide | omega) rfl ?_
    refine gx_ld (i := 3) (d := 0) (v := .inl (e + 1)) rfl (fun _ => rfl) l2_3 rfl rfl ?_
    refine ex_iadd rfl (by first | decide | omega) rfl ?_
    refine gx_ld (i := 2) (d := 0) (v := .inl o) rfl (fun _ => rfl) l2_2 rfl rfl ?_
    refine ex_go (S := (86, l2, [.inr (.inl ((nI o).toInt64.toBitVec.toNat)), .inl ((164 * g) + (e + 1)), gx_r 405], t0, n, 0)) rfl (fun _ => rfl) rfl ?_
    rw [sp_i2l (show o < 2147483648 from by omega)]
    refine gx_ld (i := 0) (d := 2) (v := gx_r 383) rfl (fun _ => rfl) l2_0 rfl rfl ?_
    refine gx_ld (i := 1) (d := 0) (v := .inl g) rfl (fun _ => rfl) l2_1 rfl rfl ?_
    refine ex_go (S := (89, l2, [.inl 0, .inl g, gx_r 383, .inr (.inl o), .inl ((164 * g) + (e + 1)), gx_r 405], t0, n, 0)) rfl (fun _ => rfl) rfl ?_
    refine gx_ld (i := 3) (d := 0) (v := .inl (e + 1)) rfl (fun _ => rfl) l2_3 rfl rfl ?_
    refine ex_go (S := (91, l2, [.inl 1, .inl (e + 1), .inl 0, .inl g, gx_r 383, .inr (.inl o), .inl ((164 * g) + (e + 1)), gx_r 405], t0, n, 0)) rfl (fun _ => rfl) rfl ?_
    refine gx_isub rfl (by first | decide | omega) (by first | decide | omega) rfl ?_
    show en_ex _ _ _ _ (92, l2, [.inl e, .inl 0, .inl g, gx_r 383, .inr (.inl o), .inl ((164 * g) + (e + 1)), gx_r 405], t0, n, 0) _
    obtain ⟨_, r3, rfl⟩ := pe_openDay d n (g := g) (w := 0) (e := e) (q := q) (X := nx e) (Y := gD o q nx e 0) g0 ((i0.2 _ _ (by first | decide | omega)).trans (kK)) hK (by first | decide | omega) ((i0.2 _ _ (by first | decide | omega)).trans (k1)) hq (fun z => kX1 z e) (fun z => (i0.2 _ _ (by first | decide | omega)).trans (kX2 z e (by first | decide | omega))) hxe (i0.1 e (by first | decide | omega) 0 (by first | decide | omega)) (hP 0)
    refine gx_call1 rfl rfl g0 rfl rfl r3 rfl ?_
    show en_ex _ _ _ _ (95, l2, [.inl (gO q 0 (nx e) (gD o q nx e 0)), .inr (.inl o), .inl ((164 * g) + (e + 1)), gx_r 405], t0, n, 0) _
    refine ex_go (S := (96, l2, [.inr (.inl ((nI (gO q 0 (nx e) (gD o q nx e 0))).toInt64.toBitVec.toNat)), .inr (.inl o), .inl ((164 * g) + (e + 1)), gx_r 405], t0, n, 0)) rfl (fun _ => rfl) rfl ?_
    rw [sp_i2l (show gO q 0 (nx e) (gD o q nx e 0) < 2147483648 from by omega)]
    refine ex_go (S := (97, l2, [.inr (.inl ((lN o * lN (gO q 0 (nx e) (gD o q nx e 0))).toBitVec.toNat)), .inl ((164 * g) + (e + 1)), gx_r 405], t0, n, 0)) rfl (fun _ => rfl) rfl ?_
    rw [sp_lmul (show o * (gO q 0 (nx e) (gD o q nx e 0)) < 18446744073709551616 from by omega)]
    refine ex_go (S := (99, l2, [.inl 10, .inr (.inl (o * (gO q 0 (nx e) (gD o q nx e 0)))), .inl ((164 * g) + (e + 1)), gx_r 405], t0, n, 0)) rfl (fun _ => rfl) rfl ?_
    refine gx_ld (i := 2) (d := 0) (v := .inl o) rfl (fun _ => rfl) l2_2 rfl rfl ?_
    refine gx_isub rfl (by first | decide | omega) (by first | decide | omega) rfl ?_
    refine ex_go (S := (102, l2, [.inr (.inl ((nI (10 - o)).toInt64.toBitVec.toNat)), .inr (.inl (o * (gO q 0 (nx e) (gD o q nx e 0)))), .inl ((164 * g) + (e + 1)), gx_r 405], t0, n, 0)) rfl (fun _ => rfl) rfl ?_
    rw [sp_i2l (show 10 - o < 2147483648 from by omega)]
    refine gx_ld (i := 4) (d := 1) (v := .inr (.inl (gD o q nx e 3))) rfl (fun _ => rfl) hl2 rfl rfl ?_
    refine ex_go (S := (105, l2, [.inr (.inl ((lN (10 - o) * lN (gD o q nx e 3)).toBitVec.toNat)), .inr (.inl (o * (gO q 0 (nx e) (gD o q nx e 0)))), .inl ((164 * g) + (e + 1)), gx_r 405], t0, n, 0)) rfl (fun _ => rfl) rfl ?_
    rw [sp_lmul (show (10 - o) * (gD o q nx e 3) < 18446744073709551616 from by omega)]
    refine ex_go (S := (106, l2, [.inr (.inl ((lN (o * (gO q 0 (nx e) (gD o q nx e 0))) + lN ((10 - o) * (gD o q nx e 3))).toBitVec.toNat)), .inl ((164 * g) + (e + 1)), gx_r 405], t0, n, 0)) rfl (fun _ => rfl) rfl ?_
    rw [sp_ladd (show (o * (gO q 0 (nx e) (gD o q nx e 0))) + ((10 - o) * (gD o q nx e 3)) < 18446744073709551616 from by omega)]
    refine ex_go (S := (109, l2, [.inr (.inl 10), .inr (.inl ((o * (gO q 0 (nx e) (gD o q nx e 0))) + ((10 - o) * (gD o q nx e 3)))), .inl ((164 * g) + (e + 1)), gx_r 405], t0, n, 0)) rfl (fun _ => rfl) rfl ?_
    refine gx_ldivn rfl (by first | decide | omega) (by first | decide | omega) (by first | decide | omega) rfl ?_
    refine ex_go (S := (111, l2, [.inl ((lN (((o * (gO q 0 (nx e) (gD o q nx e 0))) + ((10 - o) * (gD o q nx e 3))) / 10)).toInt32.toBitVec.toNat), .inl ((164 * g) + (e + 1)), gx_r 405], t0, n, 0)) rfl (fun _ => rfl) rfl ?_
    rw [zk_l2i (show ((o * (gO q 0 (nx e) (gD o q nx e 0))) + ((10 - o) * (gD o q nx e 3))) / 10 < 2147483648 from by omega)]
    refine gx_ap rfl (fun _ => rfl) g0 rfl rfl rfl (show (164 * g) + (e + 1) < 984 from by omega) (gx_run1 (show (164 * g) + (e + 1) < 984 from by omega)) (gx_full (by first | decide | omega)) rfl (fun t104 g104 k104 e104 => ?_)
    refine ex_go (S := (113, l2, [.inl 0], t104, n, 0)) rfl (fun _ => rfl) rfl ?_
    refine gx_sto (i := 6) (d := 0) rfl (fun _ => rfl) rfl rfl (fun l5 hl5 ml5 => ?_)
    have l5_0 : en_ld l5 0 = some (gx_r 383) := ml5 0 _ l2_0 rfl
    have l5_1 : en_ld l5 1 = some (.inl g) := ml5 1 _ l2_1 rfl
    have l5_2 : en_ld l5 2 = some (.inl o) := ml5 2 _ l2_2 rfl
    have l5_3 : en_ld l5 3 = some (.inl (e + 1)) := ml5 3 _ l2_3 rfl
    have l5_4 : en_ld l5 4 = some (.inr (.inl (gD o q nx e 3))) := ml5 4 _ hl2 rfl
    refine gx_ld (i := 6) (d := 0) (v := .inl 0) rfl (fun _ => rfl) hl5 rfl rfl ?_
    refine ex_go (S := (118, l5, [.inl 3, .inl 0], t104, n, 0)) rfl (fun _ => rfl) rfl ?_
    refine ex_go (S := (121, l5, [], t104, n, 0)) rfl (fun _ => rfl) rfl ?_
    refine gx_ld (i := 0) (d := 2) (v := gx_r 383) rfl (fun _ => rfl) l5_0 rfl rfl ?_
    refine gx_ld (i := 1) (d := 0) (v := .inl g) rfl (fun _ => rfl) l5_1 rfl rfl ?_
    refine gx_ld (i := 6) (d := 0) (v := .inl 0) rfl (fun _ => rfl) hl5 rfl rfl ?_
    refine ex_go (S := (126, l5, [.inl 2, .inl 0, .inl g, gx_r 383], t104, n, 0)) rfl (fun _ => rfl) rfl ?_
    refine ex_go (S := (129, l5, [.inl g, gx_r 383], t104, n, 0)) rfl (fun _ => rfl) rfl ?_
    refine gx_ld (i := 6) (d := 0) (v := .inl 0) rfl (fun _ => rfl) hl5 rfl rfl ?_
    refine ex_go (S := (132, l5, [.inl 1, .inl 0, .inl g, gx_r 383], t104, n, 0)) rfl (fun _ => rfl) rfl ?_
    refine ex_go (S := (133, l5, [.inl 1, .inl g, gx_r 383], t104, n, 0)) rfl (fun _ => rfl) rfl ?_
    refine ex_go (S := (137, l5, [.inl 1, .inl g, gx_r 383], t104, n, 0)) rfl (fun _ => rfl) rfl ?_
    refine gx_ld (i := 3) (d := 0) (v := .inl (e + 1)) rfl (fun _ => rfl) l5_3 rfl rfl ?_
    refine ex_go (S := (139, l5, [.inl 1, .inl (e + 1), .inl 1, .inl g, gx_r 383], t104, n, 0)) rfl (fun _ => rfl) rfl ?_
    refine gx_isub rfl (by first | decide | omega) (by first | decide | omega) rfl ?_
    show en_ex _ _ _ _ (140, l5, [.inl e, .inl 1, .inl g, gx_r 383], t104, n, 0) _
    obtain ⟨_, r6, rfl⟩ := pe_openDay d n (g := g) (w := 1) (e := e) (q := q) (X := nx e) (Y := gD o q nx e 1) g104 ((e104 389 6 (by first | decide | omega)).trans ((i0.2 _ _ (by first | decide | omega)).trans (kK))) hK (by first | decide | omega) ((e104 389 _ (by first | decide | omega)).trans ((i0.2 _ _ (by first | decide | omega)).trans (k1))) hq (fun z => kX1 z e) (fun z => (e104 405 _ (by first | decide | omega)).trans ((i0.2 _ _ (by first | decide | omega)).trans (kX2 z e (by first | decide | omega)))) hxe ((e104 405 _ (by first | decide | omega)).trans (i0.1 e (by first | decide | omega) 1 (by first | decide | omega))) (hP 1)
    refine gx_call1 rfl rfl g104 rfl rfl r6 rfl ?_
    show en_ex _ _ _ _ (143, l5, [.inl (gO q 1 (nx e) (gD o q nx e 1))], t104, n, 0) _
    refine ex_go (S := (144, l5, [.inr (.inl ((nI (gO q 1 (nx e) (gD o q nx e 1))).toInt64.toBitVec.toNat))], t104, n, 0)) rfl (fun _ => rfl) rfl ?_
    rw [sp_i2l (show gO q 1 (nx e) (gD o q nx e 1) < 2147483648 from by omega)]
    refine gx_sto (i := 7) (d := 1) rfl (fun _ => rfl) rfl rfl (fun l7 hl7 ml7 => ?_)
    have l7_0 : en_ld l7 0 = some (gx_r 383) := ml7 0 _ l5_0 rfl
    have l7_1 : en_ld l7 1 = some (.inl g) := ml7 1 _ l5_1 rfl
    have l7_2 : en_ld l7 2 = some (.inl o) := ml7 2 _ l5_2 rfl
    have l7_3 : en_ld l7 3 = some (.inl (e + 1)) := ml7 3 _ l5_3 rfl
    have l7_4 : en_ld l7 4 = some (.inr (.inl (gD o q nx e 3))) := ml7 4 _ l5_4 rfl
    have l7_6 : en_ld l7 6 = some (.inl 0) := ml7 6 _ hl5 rfl
    refine gx_ld (i := 0) (d := 2) (v := gx_r 383) rfl (fun _ => rfl) l7_0 rfl rfl ?_
    refine gx_ref (c := 405) rfl g104 rfl rfl rfl rfl ?_
    refine ex_go (S := (152, l7, [.inl 41, gx_r 405], t104, n, 0)) rfl (fun _ => rfl) rfl ?_
    refine ex_go (S := (153, l7, [.inl 4, .inl 41, gx_r 405], t104, n, 0)) rfl (fun _ => rfl) rfl ?_
    refine gx_ld (i := 1) (d := 0) (v := .inl g) rfl (fun _ => rfl) l7_1 rfl rfl ?_
    refine gx_imul rfl (by first | decide | omega) rfl ?_
    refine ex_go (S := (156, l7, [.inl 1, .inl (4 * g), .inl 41, gx_r 405], t104, n, 0)) rfl (fun _ => rfl) rfl ?_
    refine ex_iadd rfl (by first | decide | omega) rfl ?_
    refine gx_ld (i := 6) (d := 0) (v := .inl 0) rfl (fun _ => rfl) l7_6 rfl rfl ?_
    refine ex_iadd rfl (by first | decide | omega) rfl ?_
    refine gx_imul rfl (by first | decide | omega) rfl ?_
    refine gx_ld (i := 3) (d := 0) (v := .inl (e + 1)) rfl (fun _ => rfl) l7_3 rfl rfl ?_
    refine ex_iadd rfl (by first | decide | omega) rfl ?_
    refine ex_go (S := (166, l7, [.inr (.inl 2), .inl ((41 * (((4 * g) + 1) + 0)) + (e + 1)), gx_r 405], t104, n, 0)) rfl (fun _ => rfl) rfl ?_
    refine gx_ld (i := 4) (d := 1) (v := .inr (.inl (gD o q nx e 3))) rfl (fun _ => rfl) l7_4 rfl rfl ?_
    refine ex_go (S := (169, l7, [.inr (.inl ((lN 2 * lN (gD o q nx e 3)).toBitVec.toNat)), .inl ((41 * (((4 * g) + 1) + 0)) + (e + 1)), gx_r 405], t104, n, 0)) rfl (fun _ => rfl) rfl ?_
    rw [sp_lmul (show 2 * (gD o q nx e 3) < 18446744073709551616 from by omega)]
    refine ex_go (S := (172, l7, [.inr (.inl 8), .inr (.inl (2 * (gD o q nx e 3))), .inl ((41 * (((4 * g) + 1) + 0)) + (e + 1)), gx_r 405], t104, n, 0)) rfl (fun _ => rfl) rfl ?_
    refine gx_ld (i := 7) (d := 1) (v := .inr (.inl (gO q 1 (nx e) (gD o q nx e 1)))) rfl (fun _ => rfl) hl7 rfl rfl ?_
    refine ex_go (S := (175, l7, [.inr (.inl ((lN 8 * lN (gO q 1 (nx e) (gD o q nx e 1))).toBitVec.toNat)), .inr (.inl (2 * (gD o q nx e 3))), .inl ((41 * (((4 * g) + 1) + 0)) + (e + 1)), gx_r 405], t104, n, 0)) rfl (fun _ => rfl) rfl ?_
    rw [sp_lmul (show 8 * (gO q 1 (nx e) (gD o q nx e 1)) < 18446744073709551616 from by omega)]
    refine ex_go (S := (176, l7, [.inr (.inl ((lN (2 * (gD o q nx e 3)) + lN (8 * (gO q 1 (nx e) (gD o q nx e 1)))).toBitVec.toNat)), .inl ((41 * (((4 * g) + 1) + 0)) + (e + 1)), gx_r 405], t104, n, 0)) rfl (fun _ => rfl) rfl ?_
    rw [sp_ladd (show (2 * (gD o q nx e 3)) + (8 * (gO q 1 (nx e) (gD o q nx e 1))) < 18446744073709551616 from by omega)]
    refine ex_go (S := (179, l7, [.inr (.inl 10), .inr (.inl ((2 * (gD o q nx e 3)) + (8 * (gO q 1 (nx e) (gD o q nx e 1))))), .inl ((41 * (((4 * g) + 1) + 0)) + (e + 1)), gx_r 405], t104, n, 0)) rfl (fun _ => rfl) rfl ?_
    refine gx_ldivn rfl (by first | decide | omega) (by first | decide | omega) (by first | decide | omega) rfl ?_
    refine ex_go (S := (181, l7, [.inl ((lN (((2 * (gD o q nx e 3)) + (8 * (gO q 1 (nx e) (gD o q nx e 1)))) / 10)).toInt32.toBitVec.toNat), .inl ((41 * (((4 * g) + 1) + 0)) + (e + 1)), gx_r 405], t104, n, 0)) rfl (fun _ => rfl) rfl ?_
    rw [zk_l2i (show ((2 * (gD o q nx e 3)) + (8 * (gO q 1 (nx e) (gD o q nx e 1)))) / 10 < 2147483648 from by omega)]
    refine gx_ap rfl (fun _ => rfl) g104 rfl rfl rfl (show (41 * (((4 * g) + 1) + 0)) + (e + 1) < 984 from by omega) (gx_run1 (show (41 * (((4 * g) + 1) + 0)) + (e + 1) < 984 from by omega)) (gx_full (by first | decide | omega)) rfl (fun t108 g108 k108 e108 => ?_)
    have k9 : ai_hv t108 405 ((164 * g) + (e + 1)) = some (.inl (((o * (gO q 0 (nx e) (gD o q nx e 0))) + ((10 - o) * (gD o q nx e 3))) / 10)) := (e108 405 ((164 * g) + (e + 1)) (by first | decide | omega)).trans k104
    refine gx_incS (i := 6) (a := 0) (x := 1) rfl (fun _ => rfl) l7_6 (by first | decide | omega) rfl (fun l10 hl10 ml10 => ?_)
    have l10_0 : en_ld l10 0 = some (gx_r 383) := ml10 0 _ l7_0 rfl
    have l10_1 : en_ld l10 1 = some (.inl g) := ml10 1 _ l7_1 rfl
    have l10_2 : en_ld l10 2 = some (.inl o) := ml10 2 _ l7_2 rfl
    have l10_3 : en_ld l10 3 = some (.inl (e + 1)) := ml10 3 _ l7_3 rfl
    have l10_4 : en_ld l10 4 = some (.inr (.inl (gD o q nx e 3))) := ml10 4 _ l7_4 rfl
    have l10_7 : en_ld l10 7 = some (.inr (.inl (gO q 1 (nx e) (gD o q nx e 1)))) := ml10 7 _ hl7 rfl
    refine ex_go (S := (115, l10, [], t108, n, 0)) rfl (fun _ => rfl) rfl ?_
    refine gx_ld (i := 6) (d := 0) (v := .inl 1) rfl (fun _ => rfl) hl10 rfl rfl ?_
    refine ex_go (S := (118, l10, [.inl 3, .inl 1], t108, n, 0)) rfl (fun _ => rfl) rfl ?_
    refine ex_go (S := (121, l10, [], t108, n, 0)) rfl (fun _ => rfl) rfl ?_
    refine gx_ld (i := 0) (d := 2) (v := gx_r 383) rfl (fun _ => rfl) l10_0 rfl rfl ?_
    refine gx_ld (i := 1) (d := 0) (v := .inl g) rfl (fun _ => rfl) l10_1 rfl rfl ?_
    refine gx_ld (i := 6) (d := 0) (v := .inl 1) rfl (fun _ => rfl) hl10 rfl rfl ?_
    refine ex_go (S := (126, l10, [.inl 2, .inl 1, .inl g, gx_r 383], t108, n, 0)) rfl (fun _ => rfl) rfl ?_
    refine ex_go (S := (129, l10, [.inl g, gx_r 383], t108, n, 0)) rfl (fun _ => rfl) rfl ?_
    refine gx_ld (i := 6) (d := 0) (v := .inl 1) rfl (fun _ => rfl) hl10 rfl rfl ?_
    refine ex_go (S := (132, l10, [.inl 1, .inl 1, .inl g, gx_r 383], t108, n, 0)) rfl (fun _ => rfl) rfl ?_
    refine ex_go (S := (133, l10, [.inl 2, .inl g, gx_r 383], t108, n, 0)) rfl (fun _ => rfl) rfl ?_
    refine ex_go (S := (137, l10, [.inl 2, .inl g, gx_r 383], t108, n, 0)) rfl (fun _ => rfl) rfl ?_
    refine gx_ld (i := 3) (d := 0) (v := .inl (e + 1)) rfl (fun _ => rfl) l10_3 rfl rfl ?_
    refine ex_go (S := (139, l10, [.inl 1, .inl (e + 1), .inl 2, .inl g, gx_r 383], t108, n, 0)) rfl (fun _ => rfl) rfl ?_
    refine gx_isub rfl (by first | decide | omega) (by first | decide | omega) rfl ?_
    show en_ex _ _ _ _ (140, l10, [.inl e, .inl 2, .inl g, gx_r 383], t108, n, 0) _
    obtain ⟨_, r11, rfl⟩ := pe_openDay d n (g := g) (w := 2) (e := e) (q := q) (X := nx e) (Y := gD o q nx e 2) g108 ((e108 389 6 (by first | decide | omega)).trans ((e104 389 6 (by first | decide | omega)).trans ((i0.2 _ _ (by first | decide | omega)).trans (kK)))) hK (by first | decide | omega) ((e108 389 _ (by first | decide | omega)).trans ((e104 389 _ (by first | decide | omega)).trans ((i0.2 _ _ (by first | decide | omega)).trans (k1)))) hq (fun z => kX1 z e) (fun z => (e108 405 _ (by first | decide | omega)).trans ((e104 405 _ (by first | decide | omega)).trans ((i0.2 _ _ (by first | decide | omega)).trans (kX2 z e (by first | decide | omega))))) hxe ((e108 405 _ (by first | decide | omega)).trans ((e104 405 _ (by first | decide | omega)).trans (i0.1 e (by first | decide | omega) 2 (by first | decide | omega)))) (hP 2)
    refine gx_call1 rfl rfl g108 rfl rfl r11 rfl ?_
    show en_ex _ _ _ _ (143, l10, [.inl (gO q 2 (nx e) (gD o q nx e 2))], t108, n, 0) _
    refine ex_go (S := (144, l10, [.inr (.inl ((nI (gO q 2 (nx e) (gD o q nx e 2))).toInt64.toBitVec.toNat))], t108, n, 0)) rfl (fun _ => rfl) rfl ?_
    rw [sp_i2l (show gO q 2 (nx e) (gD o q nx e 2) < 2147483648 from by omega)]
    refine gx_sto (i := 7) (d := 1) rfl (fun _ => rfl) rfl rfl (fun l12 hl12 ml12 => ?_)
    have l12_0 : en_ld l12 0 = some (gx_r 383) := ml12 0 _ l10_0 rfl
    have l12_1 : en_ld l12 1 = some (.inl g) := ml12 1 _ l10_1 rfl
    have l12_2 : en_ld l12 2 = some (.inl o) := ml12 2 _ l10_2 rfl
    have l12_3 : en_ld l12 3 = some (.inl (e + 1)) := ml12 3 _ l10_3 rfl
    have l12_4 : en_ld l12 4 = some (.inr (.inl (gD o q nx e 3))) := ml12 4 _ l10_4 rfl
    have l12_6 : en_ld l12 6 = some (.inl 1) := ml12 6 _ hl10 rfl
    refine gx_ld (i := 0) (d := 2) (v := gx_r 383) rfl (fun _ => rfl) l12_0 rfl rfl ?_
    refine gx_ref (c := 405) rfl g108 rfl rfl rfl rfl ?_
    refine ex_go (S := (152, l12, [.inl 41, gx_r 405], t108, n, 0)) rfl (fun _ => rfl) rfl ?_
    refine ex_go (S := (153, l12, [.inl 4, .inl 41, gx_r 405], t108, n, 0)) rfl (fun _ => rfl) rfl ?_
    refine gx_ld (i := 1) (d := 0) (v := .inl g) rfl (fun _ => rfl) l12_1 rfl rfl ?_
    refine gx_imul rfl (by first | decide | omega) rfl ?_
    refine ex_go (S := (156, l12, [.inl 1, .inl (4 * g), .inl 41, gx_r 405], t108, n, 0)) rfl (fun _ => rfl) rfl ?_
    refine ex_iadd rfl (by first | decide | omega) rfl ?_
    refine gx_ld (i := 6) (d := 0) (v := .inl 1) rfl (fun _ => rfl) l12_6 rfl rfl ?_
    refine ex_iadd rfl (by first | decide | omega) rfl ?_
    refine gx_imul rfl (by first | decide | omega) rfl ?_
    refine gx_ld (i := 3) (d := 0) (v := .inl (e + 1)) rfl (fun _ => rfl) l12_3 rfl rfl ?_
    refine ex_iadd rfl (by first | decide | omega) rfl ?_
    refine ex_go (S := (166, l12, [.inr (.inl 2), .inl ((41 * (((4 * g) + 1) + 1)) + (e + 1)), gx_r 405], t108, n, 0)) rfl (fun _ => rfl) rfl ?_
    refine gx_ld (i := 4) (d := 1) (v := .inr (.inl (gD o q nx e 3))) rfl (fun _ => rfl) l12_4 rfl rfl ?_
    refine ex_go (S := (169, l12, [.inr (.inl ((lN 2 * lN (gD o q nx e 3)).toBitVec.toNat)), .inl ((41 * (((4 * g) + 1) + 1)) + (e + 1)), gx_r 405], t108, n, 0)) rfl (fun _ => rfl) rfl ?_
    rw [sp_lmul (show 2 * (gD o q nx e 3) < 18446744073709551616 from by omega)]
    refine ex_go (S := (172, l12, [.inr (.inl 8), .inr (.inl (2 * (gD o q nx e 3))), .inl ((41 * (((4 * g) + 1) + 1)) + (e + 1)), gx_r 405], t108, n, 0)) rfl (fun _ => rfl) rfl ?_
    refine gx_ld (i := 7) (d := 1) (v := .inr (.inl (gO q 2 (nx e) (gD o q nx e 2)))) rfl (fun _ => rfl) hl12 rfl rfl ?_
    refine ex_go (S := (175, l12, [.inr (.inl ((lN 8 * lN (gO q 2 (nx e) (gD o q nx e 2))).toBitVec.toNat)), .inr (.inl (2 * (gD o q nx e 3))), .inl ((41 * (((4 * g) + 1) + 1)) + (e + 1)), gx_r 405], t108, n, 0)) rfl (fun _ => rfl) rfl ?_
    rw [sp_lmul (show 8 * (gO q 2 (nx e) (gD o q nx e 2)) < 18446744073709551616 from by omega)]
    refine ex_go (S := (176, l12, [.inr (.inl ((lN (2 * (gD o q nx e 3)) + lN (8 * (gO q 2 (nx e) (gD o q nx e 2)))).toBitVec.toNat)), .inl ((41 * (((4 * g) + 1) + 1)) + (e + 1)), gx_r 405], t108, n, 0)) rfl (fun _ => rfl) rfl ?_
    rw [sp_ladd (show (2 * (gD o q nx e 3)) + (8 * (gO q 2 (nx e) (gD o q nx e 2))) < 18446744073709551616 from by omega)]
    refine ex_go (S := (179, l12, [.inr (.inl 10), .inr (.inl ((2 * (gD o q nx e 3)) + (8 * (gO q 2 (nx e) (gD o q nx e 2))))), .inl ((41 * (((4 * g) + 1) + 1)) + (e + 1)), gx_r 405], t108, n, 0)) rfl (fun _ => rfl) rfl ?_
    refine gx_ldivn rfl (by first | decide | omega) (by first | decide | omega) (by first | decide | omega) rfl ?_
    refine ex_go (S := (181, l12, [.inl ((lN (((2 * (gD o q nx e 3)) + (8 * (gO q 2 (nx e) (gD o q nx e 2)))) / 10)).toInt32.toBitVec.toNat), .inl ((41 * (((4 * g) + 1) + 1)) + (e + 1)), gx_r 405], t108, n, 0)) rfl (fun _ => rfl) rfl ?_
    rw [zk_l2i (show ((2 * (gD o q nx e 3)) + (8 * (gO q 2 (nx e) (gD o q nx e 2)))) / 10 < 2147483648 from by omega)]
    refine gx_ap rfl (fun _ => rfl) g108 rfl rfl rfl (show (41 * (((4 * g) + 1) + 1)) + (e + 1) < 984 from by omega) (gx_run1 (show (41 * (((4 * g) + 1) + 1)) + (e + 1) < 984 from by omega)) (gx_full (by first | decide | omega)) rfl (fun t113 g113 k113 e113 => ?_)
    have k14 : ai_hv t113 405 ((164 * g) + (e + 1)) = some (.inl (((o * (gO q 0 (nx e) (gD o q nx e 0))) + ((10 - o) * (gD o q nx e 3))) / 10)) := (e113 405 ((164 * g) + (e + 1)) (by first | decide | omega)).trans k9
    have k15 : ai_hv t113 405 ((41 * (((4 * g) + 1) + 0)) + (e + 1)) = some (.inl (((2 * (gD o q nx e 3)) + (8 * (gO q 1 (nx e) (gD o q nx e 1)))) / 10)) := (e113 405 ((41 * (((4 * g) + 1) + 0)) + (e + 1)) (by first | decide | omega)).trans k108
    refine gx_incS (i := 6) (a := 1) (x := 1) rfl (fun _ => rfl) l12_6 (by first | decide | omega) rfl (fun l16 hl16 ml16 => ?_)
    have l16_0 : en_ld l16 0 = some (gx_r 383) := ml16 0 _ l12_0 rfl
    have l16_1 : en_ld l16 1 = some (.inl g) := ml16 1 _ l12_1 rfl
    have l16_2 : en_ld l16 2 = some (.inl o) := ml16 2 _ l12_2 rfl
    have l16_3 : en_ld l16 3 = some (.inl (e + 1)) := ml16 3 _ l12_3 rfl
    have l16_4 : en_ld l16 4 = some (.inr (.inl (gD o q nx e 3))) := ml16 4 _ l12_4 rfl
    have l16_7 : en_ld l16 7 = some (.inr (.inl (gO q 2 (nx e) (gD o q nx e 2)))) := ml16 7 _ hl12 rfl
    refine ex_go (S := (115, l16, [], t113, n, 0)) rfl (fun _ => rfl) rfl ?_
    refine gx_ld (i := 6) (d := 0) (v := .inl 2) rfl (fun _ => rfl) hl16 rfl rfl ?_
    refine ex_go (S := (118, l16, [.inl 3, .inl 2], t113, n, 0)) rfl (fun _ => rfl) rfl ?_
    refine ex_go (S := (121, l16, [], t113, n, 0)) rfl (fun _ => rfl) rfl ?_
    refine gx_ld (i := 0) (d := 2) (v := gx_r 383) rfl (fun _ => rfl) l16_0 rfl rfl ?_
    refine gx_ld (i := 1) (d := 0) (v := .inl g) rfl (fun _ => rfl) l16_1 rfl rfl ?_
    refine gx_ld (i := 6) (d := 0) (v := .inl 2) rfl (fun _ => rfl) hl16 rfl rfl ?_
    refine ex_go (S := (126, l16, [.inl 2, .inl 2, .inl g, gx_r 383], t113, n, 0)) rfl (fun _ => rfl) rfl ?_
    refine ex_go (S := (136, l16, [.inl g, gx_r 383], t113, n, 0)) rfl (fun _ => rfl) rfl ?_
    refine ex_go (S := (137, l16, [.inl 2, .inl g, gx_r 383], t113, n, 0)) rfl (fun _ => rfl) rfl ?_
    refine gx_ld (i := 3) (d := 0) (v := .inl (e + 1)) rfl (fun _ => rfl) l16_3 rfl rfl ?_
    refine ex_go (S := (139, l16, [.inl 1, .inl (e + 1), .inl 2, .inl g, gx_r 383], t113, n, 0)) rfl (fun _ => rfl) rfl ?_
    refine gx_isub rfl (by first | decide | omega) (by first | decide | omega) rfl ?_
    show en_ex _ _ _ _ (140, l16, [.inl e, .inl 2, .inl g, gx_r 383], t113, n, 0) _
    obtain ⟨_, r17, rfl⟩ := pe_openDay d n (g := g) (w := 2) (e := e) (q := q) (X := nx e) (Y := gD o q nx e 2) g113 ((e113 389 6 (by first | decide | omega)).trans ((e108 389 6 (by first | decide | omega)).trans ((e104 389 6 (by first | decide | omega)).trans ((i0.2 _ _ (by first | decide | omega)).trans (kK))))) hK (by first | decide | omega) ((e113 389 _ (by first | decide | omega)).trans ((e108 389 _ (by first | decide | omega)).trans ((e104 389 _ (by first | decide | omega)).trans ((i0.2 _ _ (by first | decide | omega)).trans (k1))))) hq (fun z => kX1 z e) (fun z => (e113 405 _ (by first | decide | omega)).trans ((e108 405 _ (by first | decide | omega)).trans ((e104 405 _ (by first | decide | omega)).trans ((i0.2 _ _ (by first | decide | omega)).trans (kX2 z e (by first | decide | omega)))))) hxe ((e113 405 _ (by first | decide | omega)).trans ((e108 405 _ (by first | decide | omega)).trans ((e104 405 _ (by first | decide | omega)).trans (i0.1 e (by first | decide | omega) 2 (by first | decide | omega))))) (hP 2)
    refine gx_call1 rfl rfl g113 rfl rfl r17 rfl ?_
    show en_ex _ _ _ _ (143, l16, [.inl (gO q 2 (nx e) (gD o q nx e 2))], t113, n, 0) _
    refine ex_go (S := (144, l16, [.inr (.inl ((nI (gO q 2 (nx e) (gD o q nx e 2))).toInt64.toBitVec.toNat))], t113, n, 0)) rfl (fun _ => rfl) rfl ?_
    rw [sp_i2l (show gO q 2 (nx e) (gD o q nx e 2) < 2147483648 from by omega)]
    refine gx_sto (i := 7) (d := 1) rfl (fun _ => rfl) rfl rfl (fun l18 hl18 ml18 => ?_)
    have l18_0 : en_ld l18 0 = some (gx_r 383) := ml18 0 _ l16_0 rfl
    have l18_1 : en_ld l18 1 = some (.inl g) := ml18 1 _ l16_1 rfl
    have l18_2 : en_ld l18 2 = some (.inl o) := ml18 2 _ l16_2 rfl
    have l18_3 : en_ld l18 3 = some (.inl (e + 1)) := ml18 3 _ l16_3 rfl
    have l18_4 : en_ld l18 4 = some (.inr (.inl (gD o q nx e 3))) := ml18 4 _ l16_4 rfl
    have l18_6 : en_ld l18 6 = some (.inl 2) := ml18 6 _ hl16 rfl
    refine gx_ld (i := 0) (d := 2) (v := gx_r 383) rfl (fun _ => rfl) l18_0 rfl rfl ?_
    refine gx_ref (c := 405) rfl g113 rfl rfl rfl rfl ?_
    refine ex_go (S := (152, l18, [.inl 41, gx_r 405], t113, n, 0)) rfl (fun _ => rfl) rfl ?_
    refine ex_go (S := (153, l18, [.inl 4, .inl 41, gx_r 405], t113, n, 0)) rfl (fun _ => rfl) rfl ?_
    refine gx_ld (i := 1) (d := 0) (v := .inl g) rfl (fun _ => rfl) l18_1 rfl rfl ?_
    refine gx_imul rfl (by first | decide | omega) rfl ?_
    refine ex_go (S := (156, l18, [.inl 1, .inl (4 * g), .inl 41, gx_r 405], t113, n, 0)) rfl (fun _ => rfl) rfl ?_
    refine ex_iadd rfl (by first | decide | omega) rfl ?_
    refine gx_ld (i := 6) (d := 0) (v := .inl 2) rfl (fun _ => rfl) l18_6 rfl rfl ?_
    refine ex_iadd rfl (by first | decide | omega) rfl ?_
    refine gx_imul rfl (by first | decide | omega) rfl ?_
    refine gx_ld (i := 3) (d := 0) (v := .inl (e + 1)) rfl (fun _ => rfl) l18_3 rfl rfl ?_
    refine ex_iadd rfl (by first | decide | omega) rfl ?_
    refine ex_go (S := (166, l18, [.inr (.inl 2), .inl ((41 * (((4 * g) + 1) + 2)) + (e + 1)), gx_r 405], t113, n, 0)) rfl (fun _ => rfl) rfl ?_
    refine gx_ld (i := 4) (d := 1) (v := .inr (.inl (gD o q nx e 3))) rfl (fun _ => rfl) l18_4 rfl rfl ?_
    refine ex_go (S := (169, l18, [.inr (.inl ((lN 2 * lN (gD o q nx e 3)).toBitVec.toNat)), .inl ((41 * (((4 * g) + 1) + 2)) + (e + 1)), gx_r 405], t113, n, 0)) rfl (fun _ => rfl) rfl ?_
    rw [sp_lmul (show 2 * (gD o q nx e 3) < 18446744073709551616 from by omega)]
    refine ex_go (S := (172, l18, [.inr (.inl 8), .inr (.inl (2 * (gD o q nx e 3))), .inl ((41 * (((4 * g) + 1) + 2)) + (e + 1)), gx_r 405], t113, n, 0)) rfl (fun _ => rfl) rfl ?_
    refine gx_ld (i := 7) (d := 1) (v := .inr (.inl (gO q 2 (nx e) (gD o q nx e 2)))) rfl (fun _ => rfl) hl18 rfl rfl ?_
    refine ex_go (S := (175, l18, [.inr (.inl ((lN 8 * lN (gO q 2 (nx e) (gD o q nx e 2))).toBitVec.toNat)), .inr (.inl (2 * (gD o q nx e 3))), .inl ((41 * (((4 * g) + 1) + 2)) + (e + 1)), gx_r 405], t113, n, 0)) rfl (fun _ => rfl) rfl ?_
    rw [sp_lmul (show 8 * (gO q 2 (nx e) (gD o q nx e 2)) < 18446744073709551616 from by omega)]
    refine ex_go (S := (176, l18, [.inr (.inl ((lN (2 * (gD o q nx e 3)) + lN (8 * (gO q 2 (nx e) (gD o q nx e 2)))).toBitVec.toNat)), .inl ((41 * (((4 * g) + 1) + 2)) + (e + 1)), gx_r 405], t113, n, 0)) rfl (fun _ => rfl) rfl ?_
    rw [sp_ladd (show (2 * (gD o q nx e 3)) + (8 * (gO q 2 (nx e) (gD o q nx e 2))) < 18446744073709551616 from by omega)]
    refine ex_go (S := (179, l18, [.inr (.inl 10), .inr (.inl ((2 * (gD o q nx e 3)) + (8 * (gO q 2 (nx e) (gD o q nx e 2))))), .inl ((41 * (((4 * g) + 1) + 2)) + (e + 1)), gx_r 405], t113, n, 0)) rfl (fun _ => rfl) rfl ?_
    refine gx_ldivn rfl (by first | decide | omega) (by first | decide | omega) (by first | decide | omega) rfl ?_
    refine ex_go (S := (181, l18, [.inl ((lN (((2 * (gD o q nx e 3)) + (8 * (gO q 2 (nx e) (gD o q nx e 2)))) / 10)).toInt32.toBitVec.toNat), .inl ((41 * (((4 * g) + 1) + 2)) + (e + 1)), gx_r 405], t113, n, 0)) rfl (fun _ => rfl) rfl ?_
    rw [zk_l2i (show ((2 * (gD o q nx e 3)) + (8 * (gO q 2 (nx e) (gD o q nx e 2)))) / 10 < 2147483648 from by omega)]
    refine gx_ap rfl (fun _ => rfl) g113 rfl rfl rfl (show (41 * (((4 * g) + 1) + 2)) + (e + 1) < 984 from by omega) (gx_run1 (show (41 * (((4 * g) + 1) + 2)) + (e + 1) < 984 from by omega)) (gx_full (by first | decide | omega)) rfl (fun t119 g119 k119 e119 => ?_)
    have k20 : ai_hv t119 405 ((164 * g) + (e + 1)) = some (.inl (((o * (gO q 0 (nx e) (gD o q nx e 0))) + ((10 - o) * (gD o q nx e 3))) / 10)) := (e119 405 ((164 * g) + (e + 1)) (by first | decide | omega)).trans k14
    have k21 : ai_hv t119 405 ((41 * (((4 * g) + 1) + 0)) + (e + 1)) = some (.inl (((2 * (gD o q nx e 3)) + (8 * (gO q 1 (nx e) (gD o q nx e 1)))) / 10)) := (e119 405 ((41 * (((4 * g) + 1) + 0)) + (e + 1)) (by first | decide | omega)).trans k15
    have k22 : ai_hv t119 405 ((41 * (((4 * g) + 1) + 1)) + (e + 1)) = some (.inl (((2 * (gD o q nx e 3)) + (8 * (gO q 2 (nx e) (gD o q nx e 2)))) / 10)) := (e119 405 ((41 * (((4 * g) + 1) + 1)) + (e + 1)) (by first | decide | omega)).trans k113
    refine gx_incS (i := 6) (a := 2) (x := 1) rfl (fun _ => rfl) l18_6 (by first | decide | omega) rfl (fun l23 hl23 ml23 => ?_)
    have l23_0 : en_ld l23 0 = some (gx_r 383) := ml23 0 _ l18_0 rfl
    have l23_1 : en_ld l23 1 = some (.inl g) := ml23 1 _ l18_1 rfl
    have l23_2 : en_ld l23 2 = some (.inl o) := ml23 2 _ l18_2 rfl
    have l23_3 : en_ld l23 3 = some (.inl (e + 1)) := ml23 3 _ l18_3 rfl
    have l23_4 : en_ld l23 4 = some (.inr (.inl (gD o q nx e 3))) := ml23 4 _ l18_4 rfl
    have l23_7 : en_ld l23 7 = some (.inr (.inl (gO q 2 (nx e) (gD o q nx e 2)))) := ml23 7 _ hl18 rfl
    refine ex_go (S := (115, l23, [], t119, n, 0)) rfl (fun _ => rfl) rfl ?_
    refine gx_ld (i := 6) (d := 0) (v := .inl 3) rfl (fun _ => rfl) hl23 rfl rfl ?_
    refine ex_go (S := (118, l23, [.inl 3, .inl 3], t119, n, 0)) rfl (fun _ => rfl) rfl ?_
    refine ex_go (S := (188, l23, [], t119, n, 0)) rfl (fun _ => rfl) rfl ?_
    refine gx_incS (i := 3) (a := e + 1) (x := 1) rfl (fun _ => rfl) l23_3 (by first | decide | omega) rfl (fun l24 hl24 ml24 => ?_)
    have l24_0 : en_ld l24 0 = some (gx_r 383) := ml24 0 _ l23_0 rfl
    have l24_1 : en_ld l24 1 = some (.inl g) := ml24 1 _ l23_1 rfl
    have l24_2 : en_ld l24 2 = some (.inl o) := ml24 2 _ l23_2 rfl
    have l24_4 : en_ld l24 4 = some (.inr (.inl (gD o q nx e 3))) := ml24 4 _ l23_4 rfl
    have l24_7 : en_ld l24 7 = some (.inr (.inl (gO q 2 (nx e) (gD o q nx e 2)))) := ml24 7 _ l23_7 rfl
    have l24_6 : en_ld l24 6 = some (.inl 3) := ml24 6 _ hl23 rfl
    refine ex_go (S := (55, l24, [], t119, n, 0)) rfl (fun _ => rfl) rfl ?_
    refine ih (e + 1 + 1) t119 l24 l24_0 l24_1 l24_2 hl24 (by first | decide | omega) (by first | decide | omega) g119 ⟨fun e1 he w hw => ?_, fun c i h => ((e119 c i (by first | decide | omega)).trans ((e113 c i (by first | decide | omega)).trans ((e108 c i (by first | decide | omega)).trans (e104 c i (by first | decide | omega))))).trans (i0.2 c i h)⟩
    by_cases e9 : e1 = e + 1
    · rw [e9]
      rcases (show w = 0 ∨ w = 1 ∨ w = 2 ∨ w = 3 by omega) with rfl | rfl | rfl | rfl
      · refine (congrArg (ai_hv t119 405) (show (41 * ((4 * g) + rh 0)) + (e + 1) = (41 * (((4 * g) + 1) + 0)) + (e + 1) from by show 41 * (4 * g + 1) + (e + 1) = _; omega)).trans k21
      · refine (congrArg (ai_hv t119 405) (show (41 * ((4 * g) + rh 1)) + (e + 1) = (41 * (((4 * g) + 1) + 1)) + (e + 1) from by show 41 * (4 * g + 2) + (e + 1) = _; omega)).trans k22
      · refine (congrArg (ai_hv t119 405) (show (41 * ((4 * g) + rh 2)) + (e + 1) = (41 * (((4 * g) + 1) + 2)) + (e + 1) from by show 41 * (4 * g + 3) + (e + 1) = _; omega)).trans k119
      · refine (congrArg (ai_hv t119 405) (show (41 * ((4 * g) + rh 3)) + (e + 1) = (164 * g) + (e + 1) from by show 41 * (4 * g + 0) + (e + 1) = _; omega)).trans k20
    · have hr9 := rh_le hw
      exact ((e119 405 _ (by first | decide | omega)).trans ((e113 405 _ (by first | decide | omega)).trans ((e108 405 _ (by first | decide | omega)).trans (e104 405 _ (by first | decide | omega))))).trans (i0.1 e1 (by first | decide | omega) w hw)
theorem gl_C (d n : Nat) {tb : en_H} {K : Nat} {Q : en_O → Prop} {O N : Nat → Nat} (kK : ai_hv tb 389 6 = some (.inl K)) (hK : K ≤ 5) (kO : ∀ g, g < K → ai_hv tb 389 (124 + 2 * g) = some (.inl (O g))) (hO : ∀ g, g < K → O g ≤ 10) (kN : ∀ g, g < K → ai_hv tb 389 (125 + 2 * g) = some (.inl (N g))) (hN : ∀ g, g < K → N g ≤ 10) (hQ : ∀ t1 (lv : en_L), ai_HG ah_G t1 → (∀ g, 0 ≤ g → g < K → ∀ e, e ≤ 40 → ∀ w, w ≤ 3 → ai_hv t1 405 ((41 * ((4 * g) + rh w)) + e) = some (.inl (gR O N K (K - g) e w))) ∧ (∀ c i, c ≠ 405 → ai_hv t1 c i = ai_hv tb c i) → en_ex none (en_u (d + 3)) (en_code 146) (fun _ => false) (200, lv, [], t1, n, 0) Q) : ∀ r t0 (lv : en_L) (h0 : en_ld lv 0 = some (gx_r 383)) (h1 : en_ld lv 1 = some (.inl (gz r))), r ≤ K → ai_HG ah_G t0 → (∀ g, r ≤ g → g < K → ∀ e, e ≤ 40 → ∀ w, w ≤ 3 → ai_hv t0 405 ((41 * ((4 * g) + rh w)) + e) = some (.inl (gR O N K (K - g) e w))) ∧ (∀ c i, c ≠ 405 → ai_hv t0 c i = ai_hv tb c i) → en_ex none (en_u (d + 3)) (en_code 146) (fun _ => false) (10, lv, [], t0, n, 0) Q := by
  intro r
  induction r with
  | zero =>
    intro t0 lv h0 h1 hr g0 i0
    have h1 : en_ld lv 1 = some (.inl 4294967295) := h1
    refine gx_ld (i := 1) (d := 0) (v := .inl 4294967295) rfl (fun _ => rfl) h1 rfl rfl ?_
    refine ex_go (S := (200, lv, [], t0, n, 0)) rfl (fun _ => rfl) rfl ?_
    exact hQ t0 lv g0 i0
  | succ r ih =>
    intro t0 lv h0 h1 hr g0 i0
    have h1 : en_ld lv 1 = some (.inl r) := h1
    have hor := hO r (by first | decide | omega)
    refine gx_ld (i := 1) (d := 0) (v := .inl r) rfl (fun _ => rfl) h1 rfl rfl ?_
    refine gx_1f (c := .lt) rfl (by first | decide | omega) (show ¬ (r < 0) from by omega) rfl ?_
    refine gx_ld (i := 0) (d := 2) (v := gx_r 383) rfl (fun _ => rfl) h0 rfl rfl ?_
    refine gx_ref (c := 389) rfl g0 rfl rfl rfl rfl ?_
    refine ex_go (S := (20, lv, [.inl 124, gx_r 389], t0, n, 0)) rfl (fun _ => rfl) rfl ?_
    refine ex_go (S := (21, lv, [.inl 2, .inl 124, gx_r 389], t0, n, 0)) rfl (fun _ => rfl) rfl ?_
    refine gx_ld (i := 1) (d := 0) (v := .inl r) rfl (fun _ => rfl) h1 rfl rfl ?_
    refine gx_imul rfl (by first | decide | omega) rfl ?_
    refine ex_iadd rfl (by first | decide | omega) rfl ?_
    have k1 : ai_hv t0 389 (124 + (2 * r)) = some (.inl (O r)) := by rw [show 124 + (2 * r) = 124 + 2 * r by omega]; exact (i0.2 _ _ (by decide)).trans (kO r (by first | decide | omega))
    refine gx_ag (v := .inl (O r)) (cb := fun c => Nat.beq c 0) rfl (fun _ => rfl) g0 rfl rfl k1 (by first | decide | omega) rfl ?_
    refine gx_sto (i := 2) (d := 0) rfl (fun _ => rfl) rfl rfl (fun l2 hl2 ml2 => ?_)
    have l2_0 : en_ld l2 0 = some (gx_r 383) := ml2 0 _ h0 rfl
    have l2_1 : en_ld l2 1 = some (.inl r) := ml2 1 _ h1 rfl
    refine ex_go (S := (27, l2, [.inl 0], t0, n, 0)) rfl (fun _ => rfl) rfl ?_
    refine gx_sto (i := 3) (d := 0) rfl (fun _ => rfl) rfl rfl (fun l3 hl3 ml3 => ?_)
    have l3_0 : en_ld l3 0 = some (gx_r 383) := ml3 0 _ l2_0 rfl
    have l3_1 : en_ld l3 1 = some (.inl r) := ml3 1 _ l2_1 rfl
    have l3_2 : en_ld l3 2 = some (.inl (O r)) := ml3 2 _ hl2 rfl
    refine gx_ld (i := 3) (d := 0) (v := .inl 0) rfl (fun _ => rfl) hl3 rfl rfl ?_
    refine ex_go (S := (30, l3, [.inl 4, .inl 0], t0, n, 0)) rfl (fun _ => rfl) rfl ?_
    refine ex_go (S := (33, l3, [], t0, n, 0)) rfl (fun _ => rfl) rfl ?_
    refine gx_ld (i := 0) (d := 2) (v := gx_r 383) rfl (fun _ => rfl) l3_0 rfl rfl ?_
    refine gx_ref (c := 405) rfl g0 rfl rfl rfl rfl ?_
    refine ex_go (S := (39, l3, [.inl 41, gx_r 405], t0, n, 0)) rfl (fun _ => rfl) rfl ?_
    refine ex_go (S := (40, l3, [.inl 4, .inl 41, gx_r 405], t0, n, 0)) rfl (fun _ => rfl) rfl ?_
    refine gx_ld (i := 1) (d := 0) (v := .inl r) rfl (fun _ => rfl) l3_1 rfl rfl ?_
    refine gx_imul rfl (by first | decide | omega) rfl ?_
    refine gx_ld (i := 3) (d := 0) (v := .inl 0) rfl (fun _ => rfl) hl3 rfl rfl ?_
    refine ex_iadd rfl (by first | decide | omega) rfl ?_
    refine gx_imul rfl (by first | decide | omega) rfl ?_
    refine ex_go (S := (46, l3, [.inl 0, .inl (41 * ((4 * r) + 0)), gx_r 405], t0, n, 0)) rfl (fun _ => rfl) rfl ?_
    refine gx_ap rfl (fun _ => rfl) g0 rfl rfl rfl (show 41 * ((4 * r) + 0) < 984 from by omega) (gx_run1 (show 41 * ((4 * r) + 0) < 984 from by omega)) (gx_full (by first | decide | omega)) rfl (fun t104 g104 k104 e104 => ?_)
    have k5 : ai_hv t104 389 (124 + (2 * r)) = some (.inl (O r)) := (e104 389 (124 + (2 * r)) (by first | decide | omega)).trans k1
    refine gx_incS (i := 3) (a := 0) (x := 1) rfl (fun _ => rfl) hl3 (by first | decide | omega) rfl (fun l6 hl6 ml6 => ?_)
    have l6_0 : en_ld l6 0 = some (gx_r 383) := ml6 0 _ l3_0 rfl
    have l6_1 : en_ld l6 1 = some (.inl r) := ml6 1 _ l3_1 rfl
    have l6_2 : en_ld l6 2 = some (.inl (O r)) := ml6 2 _ l3_2 rfl
    refine ex_go (S := (28, l6, [], t104, n, 0)) rfl (fun _ => rfl) rfl ?_
    refine gx_ld (i := 3) (d := 0) (v := .inl 1) rfl (fun _ => rfl) hl6 rfl rfl ?_
    refine ex_go (S := (30, l6, [.inl 4, .inl 1], t104, n, 0)) rfl (fun _ => rfl) rfl ?_
    refine ex_go (S := (33, l6, [], t104, n, 0)) rfl (fun _ => rfl) rfl ?_
    refine gx_ld (i := 0) (d := 2) (v := gx_r 383) rfl (fun _ => rfl) l6_0 rfl rfl ?_
    refine gx_ref (c := 405) rfl g104 rfl rfl rfl rfl ?_
    refine ex_go (S := (39, l6, [.inl 41, gx_r 405], t104, n, 0)) rfl (fun _ => rfl) rfl ?_
    refine ex_go (S := (40, l6, [.inl 4, .inl 41, gx_r 405], t104, n, 0)) rfl (fun _ => rfl) rfl ?_
    refine gx_ld (i := 1) (d := 0) (v := .inl r) rfl (fun _ => rfl) l6_1 rfl rfl ?_
    refine gx_imul rfl (by first | decide | omega) rfl ?_
    refine gx_ld (i := 3) (d := 0) (v := .inl 1) rfl (fun _ => rfl) hl6 rfl rfl ?_
    refine ex_iadd rfl (by first | decide | omega) rfl ?_
    refine gx_imul rfl (by first | decide | omega) rfl ?_
    refine ex_go (S := (46, l6, [.inl 0, .inl (41 * ((4 * r) + 1)), gx_r 405], t104, n, 0)) rfl (fun _ => rfl) rfl ?_
    refine gx_ap rfl (fun _ => rfl) g104 rfl rfl rfl (show 41 * ((4 * r) + 1) < 984 from by omega) (gx_run1 (show 41 * ((4 * r) + 1) < 984 from by omega)) (gx_full (by first | decide | omega)) rfl (fun t107 g107 k107 e107 => ?_)
    have k8 : ai_hv t107 389 (124 + (2 * r)) = some (.inl (O r)) := (e107 389 (124 + (2 * r)) (by first | decide | omega)).trans k5
    have k9 : ai_hv t107 405 (41 * ((4 * r) + 0)) = some (.inl 0) := (e107 405 (41 * ((4 * r) + 0)) (by first | decide | omega)).trans k104
    refine gx_incS (i := 3) (a := 1) (x := 1) rfl (fun _ => rfl) hl6 (by first | decide | omega) rfl (fun l10 hl10 ml10 => ?_)
    have l10_0 : en_ld l10 0 = some (gx_r 383) := ml10 0 _ l6_0 rfl
    have l10_1 : en_ld l10 1 = some (.inl r) := ml10 1 _ l6_1 rfl
    have l10_2 : en_ld l10 2 = some (.inl (O r)) := ml10 2 _ l6_2 rfl
    refine ex_go (S := (28, l10, [], t107, n, 0)) rfl (fun _ => rfl) rfl ?_
    refine gx_ld (i := 3) (d := 0) (v := .inl 2) rfl (fun _ => rfl) hl10 rfl rfl ?_
    refine ex_go (S := (30, l10, [.inl 4, .inl 2], t107, n, 0)) rfl (fun _ => rfl) rfl ?_
    refine ex_go (S := (33, l10, [], t107, n, 0)) rfl (fun _ => rfl) rfl ?_
    refine gx_ld (i := 0) (d := 2) (v := gx_r 383) rfl (fun _ => rfl) l10_0 rfl rfl ?_
    refine gx_ref (c := 405) rfl g107 rfl rfl rfl rfl ?_
    refine ex_go (S := (39, l10, [.inl 41, gx_r 405], t107, n, 0)) rfl (fun _ => rfl) rfl ?_
    refine ex_go (S := (40, l10, [.inl 4, .inl 41, gx_r 405], t107, n, 0)) rfl (fun _ => rfl) rfl ?_
    refine gx_ld (i := 1) (d := 0) (v := .inl r) rfl (fun _ => rfl) l10_1 rfl rfl ?_
    refine gx_imul rfl (by first | decide | omega) rfl ?_
    refine gx_ld (i := 3) (d := 0) (v := .inl 2) rfl (fun _ => rfl) hl10 rfl rfl ?_
    refine ex_iadd rfl (by first | decide | omega) rfl ?_
    refine gx_imul rfl (by first | decide | omega) rfl ?_
    refine ex_go (S := (46, l10, [.inl 0, .inl (41 * ((4 * r) + 2)), gx_r 405], t107, n, 0)) rfl (fun _ => rfl) rfl ?_
    refine gx_ap rfl (fun _ => rfl) g107 rfl rfl rfl (show 41 * ((4 * r) + 2) < 984 from by omega) (gx_run1 (show 41 * ((4 * r) + 2) < 984 from by omega)) (gx_full (by first | decide | omega)) rfl (fun t111 g111 k111 e111 => ?_)
    have k12 : ai_hv t111 389 (124 + (2 * r)) = some (.inl (O r)) := (e111 389 (124 + (2 * r)) (by first | decide | omega)).trans k8
    have k13 : ai_hv t111 405 (41 * ((4 * r) + 0)) = some (.inl 0) := (e111 405 (41 * ((4 * r) + 0)) (by first | decide | omega)).trans k9
    have k14 : ai_hv t111 405 (41 * ((4 * r) + 1)) = some (.inl 0) := (e111 405 (41 * ((4 * r) + 1)) (by first | decide | omega)).trans k107
    refine gx_incS (i := 3) (a := 2) (x := 1) rfl (fun _ => rfl) hl10 (by first | decide | omega) rfl (fun l15 hl15 ml15 => ?_)
    have l15_0 : en_ld l15 0 = some (gx_r 383) := ml15 0 _ l10_0 rfl
    have l15_1 : en_ld l15 1 = some (.inl r) := ml15 1 _ l10_1 rfl
    have l15_2 : en_ld l15 2 = some (.inl (O r)) := ml15 2 _ l10_2 rfl
    refine ex_go (S := (28, l15, [], t111, n, 0)) rfl (fun _ => rfl) rfl ?_
    refine gx_ld (i := 3) (d := 0) (v := .inl 3) rfl (fun _ => rfl) hl15 rfl rfl ?_
    refine ex_go (S := (30, l15, [.inl 4, .inl 3], t111, n, 0)) rfl (fun _ => rfl) rfl ?_
    refine ex_go (S := (33, l15, [], t111, n, 0)) rfl (fun _ => rfl) rfl ?_
    refine gx_ld (i := 0) (d := 2) (v := gx_r 383) rfl (fun _ => rfl) l15_0 rfl rfl ?_
    refine gx_ref (c := 405) rfl g111 rfl rfl rfl rfl ?_
    refine ex_go (S := (39, l15, [.inl 41, gx_r 405], t111, n, 0)) rfl (fun _ => rfl) rfl ?_
    refine ex_go (S := (40, l15, [.inl 4, .inl 41, gx_r 405], t111, n, 0)) rfl (fun _ => rfl) rfl ?_
    refine gx_ld (i := 1) (d := 0) (v := .inl r) rfl (fun _ => rfl) l15_1 rfl rfl ?_
    refine gx_imul rfl (by first | decide | omega) rfl ?_
    refine gx_ld (i := 3) (d := 0) (v := .inl 3) rfl (fun _ => rfl) hl15 rfl rfl ?_
    refine ex_iadd rfl (by first | decide | omega) rfl ?_
    refine gx_imul rfl (by first | decide | omega) rfl ?_
    refine ex_go (S := (46, l15, [.inl 0, .inl (41 * ((4 * r) + 3)), gx_r 405], t111, n, 0)) rfl (fun _ => rfl) rfl ?_
    refine gx_ap rfl (fun _ => rfl) g111 rfl rfl rfl (show 41 * ((4 * r) + 3) < 984 from by omega) (gx_run1 (show 41 * ((4 * r) + 3) < 984 from by omega)) (gx_full (by first | decide | omega)) rfl (fun t116 g116 k116 e116 => ?_)
    have k17 : ai_hv t116 389 (124 + (2 * r)) = some (.inl (O r)) := (e116 389 (124 + (2 * r)) (by first | decide | omega)).trans k12
    have k18 : ai_hv t116 405 (41 * ((4 * r) + 0)) = some (.inl 0) := (e116 405 (41 * ((4 * r) + 0)) (by first | decide | omega)).trans k13
    have k19 : ai_hv t116 405 (41 * ((4 * r) + 1)) = some (.inl 0) := (e116 405 (41 * ((4 * r) + 1)) (by first | decide | omega)).trans k14
    have k20 : ai_hv t116 405 (41 * ((4 * r) + 2)) = some (.inl 0) := (e116 405 (41 * ((4 * r) + 2)) (by first | decide | omega)).trans k111
    refine gx_incS (i := 3) (a := 3) (x := 1) rfl (fun _ => rfl) hl15 (by first | decide | omega) rfl (fun l21 hl21 ml21 => ?_)
    have l21_0 : en_ld l21 0 = some (gx_r 383) := ml21 0 _ l15_0 rfl
    have l21_1 : en_ld l21 1 = some (.inl r) := ml21 1 _ l15_1 rfl
    have l21_2 : en_ld l21 2 = some (.inl (O r)) := ml21 2 _ l15_2 rfl
    refine ex_go (S := (28, l21, [], t116, n, 0)) rfl (fun _ => rfl) rfl ?_
    refine gx_ld (i := 3) (d := 0) (v := .inl 4) rfl (fun _ => rfl) hl21 rfl rfl ?_
    refine ex_go (S := (30, l21, [.inl 4, .inl 4], t116, n, 0)) rfl (fun _ => rfl) rfl ?_
    refine ex_go (S := (53, l21, [], t116, n, 0)) rfl (fun _ => rfl) rfl ?_
    refine ex_go (S := (54, l21, [.inl 1], t116, n, 0)) rfl (fun _ => rfl) rfl ?_
    refine gx_sto (i := 3) (d := 0) rfl (fun _ => rfl) rfl rfl (fun l22 hl22 ml22 => ?_)
    have l22_0 : en_ld l22 0 = some (gx_r 383) := ml22 0 _ l21_0 rfl
    have l22_1 : en_ld l22 1 = some (.inl r) := ml22 1 _ l21_1 rfl
    have l22_2 : en_ld l22 2 = some (.inl (O r)) := ml22 2 _ l21_2 rfl
    refine gl_B d n (tb := t116) (K := K) (g := r) (o := O r) (q := N r) (nx := fun e => gR O N K (K - (r + 1)) e 3) ((e116 389 _ (by first | decide | omega)).trans ((e111 389 _ (by first | decide | omega)).trans ((e107 389 _ (by first | decide | omega)).trans ((e104 389 _ (by first | decide | omega)).trans ((i0.2 _ _ (by decide)).trans (kK)))))) hK (by first | decide | omega) hor ((e116 389 _ (by first | decide | omega)).trans ((e111 389 _ (by first | decide | omega)).trans ((e107 389 _ (by first | decide | omega)).trans ((e104 389 _ (by first | decide | omega)).trans ((i0.2 _ _ (by decide)).trans (kN r (by first | decide | omega))))))) (hN r (by first | decide | omega)) (fun z e => by rw [show K - (r + 1) = 0 by omega]; rfl) (fun z e he => (e116 405 _ (by first | decide | omega)).trans ((e111 405 _ (by first | decide | omega)).trans ((e107 405 _ (by first | decide | omega)).trans ((e104 405 _ (by first | decide | omega)).trans (i0.1 (r + 1) (by first | decide | omega) (by first | decide | omega) e he 3 (by first | decide | omega)))))) (fun e => gR_le hO _ (by first | decide | omega) e 3) (fun t123 lw123 w0_123 w1_123 g123 i123 => ?_) 40 1 _ l22 l22_0 l22_1 l22_2 hl22 (by first | decide | omega) (by first | decide | omega) g116 ⟨fun e he w hw => ?_, fun _ _ _ => rfl⟩
    · refine gx_decz (i := 1) (a := r) rfl (fun _ => rfl) w1_123 (by first | decide | omega) rfl (fun l24 hl24 ml24 => ?_)
      have l24_0 : en_ld l24 0 = some (gx_r 383) := ml24 0 _ w0_123 rfl
      refine ex_go (S := (10, l24, [], t123, n, 0)) rfl (fun _ => rfl) rfl ?_
      refine ih t123 l24 l24_0 hl24 (by first | decide | omega) g123 ⟨fun g1 h3 h4 e he w hw => ?_, fun c i h => (i123.2 c i (by first | decide | omega)).trans (((e116 _ _ (by first | decide | omega)).trans ((e111 _ _ (by first | decide | omega)).trans ((e107 _ _ (by first | decide | omega)).trans (e104 _ _ (by first | decide | omega))))).trans (i0.2 c i h))⟩
      by_cases e9 : g1 = r
      · rw [e9, gR_succ (by first | decide | omega)]; exact i123.1 e (by first | decide | omega) w hw
      · have hr9 := rh_le hw
        exact (i123.2 405 _ (by first | decide | omega)).trans (((e116 _ _ (by first | decide | omega)).trans ((e111 _ _ (by first | decide | omega)).trans ((e107 _ _ (by first | decide | omega)).trans (e104 _ _ (by first | decide | omega))))).trans (i0.1 g1 (by first | decide | omega) h4 e he w hw))
    · have he : e = 0 := by omega
      subst he
      rcases (show w = 0 ∨ w = 1 ∨ w = 2 ∨ w = 3 by omega) with rfl | rfl | rfl | rfl
      · exact (congrArg (ai_hv t116 405) (show (41 * ((4 * r) + rh 0)) + 0 = 41 * ((4 * r) + 1) from by show 41 * (4 * r + 1) + 0 = _; omega)).trans k19
      · exact (congrArg (ai_hv t116 405) (show (41 * ((4 * r) + rh 1)) + 0 = 41 * ((4 * r) + 2) from by show 41 * (4 * r + 2) + 0 = _; omega)).trans k20
      · exact (congrArg (ai_hv t116 405) (show (41 * ((4 * r) + rh 2)) + 0 = 41 * ((4 * r) + 3) from by show 41 * (4 * r + 3) + 0 = _; omega)).trans k116
      · exact (congrArg (ai_hv t116 405) (show (41 * ((4 * r) + rh 3)) + 0 = 41 * ((4 * r) + 0) from by show 41 * (4 * r + 0) + 0 = _; omega)).trans k18
theorem pe_lays (d n : Nat) {t0 : en_H} {K : Nat} (g0 : ai_HG ah_G t0) {O N : Nat → Nat} (kK : ai_hv t0 389 6 = some (.inl K)) (hK : K ≤ 5) (kO : ∀ g, g < K → ai_hv t0 389 (124 + 2 * g) = some (.inl (O g))) (hO : ∀ g, g < K → O g ≤ 10) (kN : ∀ g, g < K → ai_hv t0 389 (125 + 2 * g) = some (.inl (N g))) (hN : ∀ g, g < K → N g ≤ 10) : ∃ r, en_u (d + 4) 146 [gx_r 383] t0 n = some r ∧ ∃ t', r = (none, t', n, 0) ∧ ai_HG ah_G t' ∧ (∀ g, 0 ≤ g → g < K → ∀ e, e ≤ 40 → ∀ w, w ≤ 3 → ai_hv t' 405 ((41 * ((4 * g) + rh w)) + e) = some (.inl (gR O N K (K - g) e w))) ∧ (∀ c i, c ≠ 405 → ai_hv t' c i = ai_hv t0 c i) := by
  refine en_u_ex (d := d + 3) rfl ?_
  show en_ex _ _ _ _ (0, [(0, gx_r 383)], [], t0, n, 0) _
  refine ex_go (S := (1, [(0, gx_r 383)], [gx_r 383], t0, n, 0)) rfl (fun _ => rfl) rfl ?_
  refine gx_ref (c := 389) rfl g0 rfl rfl rfl rfl ?_
  refine ex_go (S := (6, [(0, gx_r 383)], [.inl 6, gx_r 389], t0, n, 0)) rfl (fun _ => rfl) rfl ?_
  refine gx_ag (v := .inl K) (cb := fun c => Nat.beq c 0) rfl (fun _ => rfl) g0 rfl rfl kK (by first | decide | omega) rfl ?_
  refine ex_go (S := (8, [(0, gx_r 383)], [.inl 1, .inl K], t0, n, 0)) rfl (fun _ => rfl) rfl ?_
  refine gx_isubz rfl (by first | decide | omega) rfl ?_
  refine ex_go (S := (10, [(1, .inl (gz K)), (0, gx_r 383)], [], t0, n, 0)) rfl (fun _ => rfl) rfl ?_
  refine gl_C d n (tb := t0) (K := K) kK hK kO hO kN hN (fun t101 lw101 g101 i101 => ?_) K _ _ rfl rfl (Nat.le_refl _) g0 ⟨fun g h1 h2 => by omega, fun _ _ _ => rfl⟩
  refine ex_ret (r := (none, t101, n, 0)) rfl (fun _ => rfl) ?_
  exact ⟨_, rfl, t101, rfl, g101, i101⟩
theorem pe_through (d n : Nat) {t0 : en_H} {g e K : Nat} (g0 : ai_HG ah_G t0) (hg : g < 4294967296) (he : e < 4294967296) {O N : Nat → Nat} (kK : ai_hv t0 389 6 = some (.inl K)) (hK : K ≤ 5) (kO : ∀ g, g < K → ai_hv t0 389 (124 + 2 * g) = some (.inl (O g))) (hO : ∀ g, g < K → O g ≤ 10) (kN : ∀ g, g < K → ai_hv t0 389 (125 + 2 * g) = some (.inl (N g))) (hN : ∀ g, g < K → N g ≤ 10) : ∃ r, en_u (d + 5) 72 [gx_r 383, .inl g, .inl e] t0 n = some r ∧ ∃ v t', r = (some (.inl v), t', n, 0) ∧ ((g ≤ K ∧ e ≤ 40 → v = gR O N K (K - g) e 3) ∧ (¬ (g ≤ K ∧ e ≤ 40) → v = 4294967295)) := by
  refine en_u_ex (d := d + 4) rfl ?_
  show en_ex _ _ _ _ (0, [(0, gx_r 383), (1, .inl g), (2, .inl e)], [], t0, n, 0) _
  refine ex_go (S := (1, [(0, gx_r 383), (1, .inl g), (2, .inl e)], [gx_r 383], t0, n, 0)) rfl (fun _ => rfl) rfl ?_
  refine ex_go (S := (2, [(0, gx_r 383), (1, .inl g), (2, .inl e)], [.inl 0, gx_r 383], t0, n, 0)) rfl (fun _ => rfl) rfl ?_
  refine gx_put rfl g0 rfl rfl (ai_in_h (by first | decide | omega) (by first | decide | omega) (by first | decide | omega)) rfl (fun t101 g101 k101 e101 => ?_)
  have k2 : ai_hv t101 389 6 = some (.inl K) := (e101 389 6 (by first | decide | omega)).trans kK
  refine ex_go (S := (6, [(0, gx_r 383), (1, .inl g), (2, .inl e)], [.inl g], t101, n, 0)) rfl (fun _ => rfl) rfl ?_
  refine ex_go (S := (7, [(0, gx_r 383), (1, .inl g), (2, .inl e)], [.inl 0, .inl g], t101, n, 0)) rfl (fun _ => rfl) rfl ?_
  refine ex_go (S := (8, [(0, gx_r 383), (1, .inl g), (2, .inl e)], [gx_r 383, .inl 0, .inl g], t101, n, 0)) rfl (fun _ => rfl) rfl ?_
  refine gx_ref (c := 389) rfl g101 rfl rfl rfl rfl ?_
  refine ex_go (S := (13, [(0, gx_r 383), (1, .inl g), (2, .inl e)], [.inl 6, gx_r 389, .inl 0, .inl g], t101, n, 0)) rfl (fun _ => rfl) rfl ?_
  refine gx_ag (v := .inl K) (cb := fun c => Nat.beq c 0) rfl (fun _ => rfl) g101 rfl rfl k2 (by first | decide | omega) rfl ?_
  obtain ⟨_, r3, b4, rfl, b4b, q5⟩ := pz_within (d + 3) n (t0 := t101) (x := g) (lo := 0) (hi := K) (by first | decide | omega) (by first | decide | omega) (by first | decide | omega)
  refine ex_stat rfl rfl rfl rfl rfl r3 (Nat.le_refl _) rfl ?_
  show en_ex _ _ _ _ (17, [(0, gx_r 383), (1, .inl g), (2, .inl e)], [.inl b4], t101, n, 0) _
  by_cases hc6 : b4 = 0
  · refine gx_1t (c := .eq) rfl (by first | decide | omega) hc6 rfl ?_
    refine ex_go (S := (31, [(0, gx_r 383), (1, .inl g), (2, .inl e)], [.inl 4294967295], t101, n, 0)) rfl (fun _ => rfl) rfl ?_
    refine ex_ret (r := (some (.inl 4294967295), t101, n, 0)) rfl (fun _ => rfl) ?_
    exact ⟨_, rfl, _, t101, rfl, fun h => absurd h (by first | decide | omega), fun _ => rfl⟩
  · refine gx_1f (c := .eq) rfl (by first | decide | omega) hc6 rfl ?_
    refine ex_go (S := (21, [(0, gx_r 383), (1, .inl g), (2, .inl e)], [.inl e], t101, n, 0)) rfl (fun _ => rfl) rfl ?_
    refine ex_go (S := (22, [(0, gx_r 383), (1, .inl g), (2, .inl e)], [.inl 0, .inl e], t101, n, 0)) rfl (fun _ => rfl) rfl ?_
    refine ex_go (S := (24, [(0, gx_r 383), (1, .inl g), (2, .inl e)], [.inl 40, .inl 0, .inl e], t101, n, 0)) rfl (fun _ => rfl) rfl ?_
    obtain ⟨_, r7, b8, rfl, b8b, q9⟩ := pz_within (d + 3) n (t0 := t101) (x := e) (lo := 0) (hi := 40) (by first | decide | omega) (by first | decide | omega) (by first | decide | omega)
    refine ex_stat rfl rfl rfl rfl rfl r7 (Nat.le_refl _) rfl ?_
    show en_ex _ _ _ _ (27, [(0, gx_r 383), (1, .inl g), (2, .inl e)], [.inl b8], t101, n, 0) _
    by_cases hc10 : b8 ≠ 0
    · refine gx_1t (c := .ne) rfl (by first | decide | omega) hc10 rfl ?_
      refine ex_go (S := (33, [(0, gx_r 383), (1, .inl g), (2, .inl e)], [gx_r 383], t101, n, 0)) rfl (fun _ => rfl) rfl ?_
      obtain ⟨_, r111, t111, rfl, g111, i111⟩ := pe_lays d n (K := K) g101 ((e101 389 _ (by first | decide | omega)).trans (kK)) hK (fun g h => (e101 389 _ (by first | decide | omega)).trans (kO g h)) hO (fun g h => (e101 389 _ (by first | decide | omega)).trans (kN g h)) hN
      refine gx_call0 rfl rfl g101 rfl rfl r111 rfl ?_
      have k12 : ai_hv t111 389 6 = some (.inl K) := (i111.2 389 6 (by first | decide | omega)).trans k2
      have k13 : ai_hv t111 383 0 = some (.inl 0) := (i111.2 383 0 (by first | decide | omega)).trans k101
      show en_ex _ _ _ _ (36, [(0, gx_r 383), (1, .inl g), (2, .inl e)], [], t111, n, 0) _
      refine ex_go (S := (37, [(0, gx_r 383), (1, .inl g), (2, .inl e)], [gx_r 383], t111, n, 0)) rfl (fun _ => rfl) rfl ?_
      refine ex_go (S := (38, [(0, gx_r 383), (1, .inl g), (2, .inl e)], [.inl g, gx_r 383], t111, n, 0)) rfl (fun _ => rfl) rfl ?_
      refine ex_go (S := (39, [(0, gx_r 383), (1, .inl g), (2, .inl e)], [.inl 0, .inl g, gx_r 383], t111, n, 0)) rfl (fun _ => rfl) rfl ?_
      refine ex_go (S := (40, [(0, gx_r 383), (1, .inl g), (2, .inl e)], [.inl e, .inl 0, .inl g, gx_r 383], t111, n, 0)) rfl (fun _ => rfl) rfl ?_
      obtain ⟨_, r14, rfl⟩ := pe_chanceAt (d + 3) n (g := g) (h := 0) (e := e) (v := gR O N K (K - g) e 3) g111 ((i111.2 389 6 (by first | decide | omega)).trans ((e101 389 6 (by first | decide | omega)).trans (kK))) hK (by first | decide | omega) (fun z => by rw [z, Nat.sub_self]; rfl) (fun z => i111.1 g (by first | decide | omega) (by first | decide | omega) e (by first | decide | omega) 3 (by first | decide | omega))
      refine gx_call1 rfl rfl g111 rfl rfl r14 rfl ?_
      show en_ex _ _ _ _ (43, [(0, gx_r 383), (1, .inl g), (2, .inl e)], [.inl (gR O N K (K - g) e 3)], t111, n, 0) _
      refine ex_ret (r := (some (.inl (gR O N K (K - g) e 3)), t111, n, 0)) rfl (fun _ => rfl) ?_
      exact ⟨_, rfl, _, t111, rfl, fun _ => rfl, fun h => absurd h (by first | decide | omega)⟩
    · refine gx_1f (c := .ne) rfl (by first | decide | omega) hc10 rfl ?_
      refine ex_go (S := (31, [(0, gx_r 383), (1, .inl g), (2, .inl e)], [.inl 4294967295], t101, n, 0)) rfl (fun _ => rfl) rfl ?_
      refine ex_ret (r := (some (.inl 4294967295), t101, n, 0)) rfl (fun _ => rfl) ?_
      exact ⟨_, rfl, _, t101, rfl, fun h => absurd h (by first | decide | omega), fun _ => rfl⟩
theorem pe_now (d n : Nat) {t0 : en_H} {g x e K : Nat} (g0 : ai_HG ah_G t0) (hg : g < 4294967296) (hx : x < 4294967296) (he : e < 4294967296) {O N : Nat → Nat} (kK : ai_hv t0 389 6 = some (.inl K)) (hK : K ≤ 5) (kO : ∀ g, g < K → ai_hv t0 389 (124 + 2 * g) = some (.inl (O g))) (hO : ∀ g, g < K → O g ≤ 10) (kN : ∀ g, g < K → ai_hv t0 389 (125 + 2 * g) = some (.inl (N g))) (hN : ∀ g, g < K → N g ≤ 10) : ∃ r, en_u (d + 5) 74 [gx_r 383, .inl g, .inl x, .inl e] t0 n = some r ∧ ∃ v t', r = (some (.inl v), t', n, 0) ∧ ((g < K ∧ x ≤ 2 ∧ e ≤ 40 → v = if gR O N K (K - g) e x ≤ gG (N g) x (gR O N K (K - (g + 1)) e 3) then 1 else 0) ∧ (¬ (g < K ∧ x ≤ 2 ∧ e ≤ 40) → v = 4294967295)) := by
  refine en_u_ex (d := d + 4) rfl ?_
  show en_ex _ _ _ _ (0, [(0, gx_r 383), (1, .inl g), (2, .inl x), (3, .inl e)], [], t0, n, 0) _
  refine ex_go (S := (1, [(0, gx_r 383), (1, .inl g), (2, .inl x), (3, .inl e)], [gx_r 383], t0, n, 0)) rfl (fun _ => rfl) rfl ?_
  refine ex_go (S := (2, [(0, gx_r 383), (1, .inl g), (2, .inl x), (3, .inl e)], [.inl 0, gx_r 383], t0, n, 0)) rfl (fun _ => rfl) rfl ?_
  refine gx_put rfl g0 rfl rfl (ai_in_h (by first | decide | omega) (by first | decide | omega) (by first | decide | omega)) rfl (fun t101 g101 k101 e101 => ?_)
  have k2 : ai_hv t101 389 6 = some (.inl K) := (e101 389 6 (by first | decide | omega)).trans kK
  refine ex_go (S := (6, [(0, gx_r 383), (1, .inl g), (2, .inl x), (3, .inl e)], [.inl g], t101, n, 0)) rfl (fun _ => rfl) rfl ?_
  refine ex_go (S := (7, [(0, gx_r 383), (1, .inl g), (2, .inl x), (3, .inl e)], [.inl 0, .inl g], t101, n, 0)) rfl (fun _ => rfl) rfl ?_
  refine ex_go (S := (8, [(0, gx_r 383), (1, .inl g), (2, .inl x), (3, .inl e)], [gx_r 383, .inl 0, .inl g], t101, n, 0)) rfl (fun _ => rfl) rfl ?_
  refine gx_ref (c := 389) rfl g101 rfl rfl rfl rfl ?_
  refine ex_go (S := (13, [(0, gx_r 383), (1, .inl g), (2, .inl x), (3, .inl e)], [.inl 6, gx_r 389, .inl 0, .inl g], t101, n, 0)) rfl (fun _ => rfl) rfl ?_
  refine gx_ag (v := .inl K) (cb := fun c => Nat.beq c 0) rfl (fun _ => rfl) g101 rfl rfl k2 (by first | decide | omega) rfl ?_
  refine ex_go (S := (15, [(0, gx_r 383), (1, .inl g), (2, .inl x), (3, .inl e)], [.inl 1, .inl K, .inl 0, .inl g], t101, n, 0)) rfl (fun _ => rfl) rfl ?_
  refine gx_isubz rfl (by first | decide | omega) rfl ?_
  obtain ⟨_, r3, b4, rfl, b4b, q5⟩ := pz_withinz (d + 3) n (t0 := t101) (x := g) (K := K) (by first | decide | omega) (by first | decide | omega)
  refine ex_stat rfl rfl rfl rfl rfl r3 (Nat.le_refl _) rfl ?_
  show en_ex _ _ _ _ (19, [(0, gx_r 383), (1, .inl g), (2, .inl x), (3, .inl e)], [.inl b4], t101, n, 0) _
  by_cases hc6 : b4 = 0
  · refine gx_1t (c := .eq) rfl (by first | decide | omega) hc6 rfl ?_
    refine ex_go (S := (42, [(0, gx_r 383), (1, .inl g), (2, .inl x), (3, .inl e)], [.inl 4294967295], t101, n, 0)) rfl (fun _ => rfl) rfl ?_
    refine ex_ret (r := (some (.inl 4294967295), t101, n, 0)) rfl (fun _ => rfl) ?_
    exact ⟨_, rfl, _, t101, rfl, fun h => absurd h (by first | decide | omega), fun _ => rfl⟩
  · refine gx_1f (c := .eq) rfl (by first | decide | omega) hc6 rfl ?_
    refine ex_go (S := (23, [(0, gx_r 383), (1, .inl g), (2, .inl x), (3, .inl e)], [.inl x], t101, n, 0)) rfl (fun _ => rfl) rfl ?_
    refine ex_go (S := (24, [(0, gx_r 383), (1, .inl g), (2, .inl x), (3, .inl e)], [.inl 0, .inl x], t101, n, 0)) rfl (fun _ => rfl) rfl ?_
    refine ex_go (S := (25, [(0, gx_r 383), (1, .inl g), (2, .inl x), (3, .inl e)], [.inl 2, .inl 0, .inl x], t101, n, 0)) rfl (fun _ => rfl) rfl ?_
    obtain ⟨_, r7, b8, rfl, b8b, q9⟩ := pz_within (d + 3) n (t0 := t101) (x := x) (lo := 0) (hi := 2) (by first | decide | omega) (by first | decide | omega) (by first | decide | omega)
    refine ex_stat rfl rfl rfl rfl rfl r7 (Nat.le_refl _) rfl ?_
    show en_ex _ _ _ _ (28, [(0, gx_r 383), (1, .inl g), (2, .inl x), (3, .inl e)], [.inl b8], t101, n, 0) _
    by_cases hc10 : b8 = 0
    · refine gx_1t (c := .eq) rfl (by first | decide | omega) hc10 rfl ?_
      refine ex_go (S := (42, [(0, gx_r 383), (1, .inl g), (2, .inl x), (3, .inl e)], [.inl 4294967295], t101, n, 0)) rfl (fun _ => rfl) rfl ?_
      refine ex_ret (r := (some (.inl 4294967295), t101, n, 0)) rfl (fun _ => rfl) ?_
      exact ⟨_, rfl, _, t101, rfl, fun h => absurd h (by first | decide | omega), fun _ => rfl⟩
    · refine gx_1f (c := .eq) rfl (by first | decide | omega) hc10 rfl ?_
      refine ex_go (S := (32, [(0, gx_r 383), (1, .inl g), (2, .inl x), (3, .inl e)], [.inl e], t101, n, 0)) rfl (fun _ => rfl) rfl ?_
      refine ex_go (S := (33, [(0, gx_r 383), (1, .inl g), (2, .inl x), (3, .inl e)], [.inl 0, .inl e], t101, n, 0)) rfl (fun _ => rfl) rfl ?_
      refine ex_go (S := (35, [(0, gx_r 383), (1, .inl g), (2, .inl x), (3, .inl e)], [.inl 40, .inl 0, .inl e], t101, n, 0)) rfl (fun _ => rfl) rfl ?_
      obtain ⟨_, r11, b12, rfl, b12b, q13⟩ := pz_within (d + 3) n (t0 := t101) (x := e) (lo := 0) (hi := 40) (by first | decide | omega) (by first | decide | omega) (by first | decide | omega)
      refine ex_stat rfl rfl rfl rfl rfl r11 (Nat.le_refl _) rfl ?_
      show en_ex _ _ _ _ (38, [(0, gx_r 383), (1, .inl g), (2, .inl x), (3, .inl e)], [.inl b12], t101, n, 0) _
      by_cases hc14 : b12 ≠ 0
      · refine gx_1t (c := .ne) rfl (by first | decide | omega) hc14 rfl ?_
        refine ex_go (S := (44, [(0, gx_r 383), (1, .inl g), (2, .inl x), (3, .inl e)], [gx_r 383], t101, n, 0)) rfl (fun _ => rfl) rfl ?_
        obtain ⟨_, r115, t115, rfl, g115, i115⟩ := pe_lays d n (K := K) g101 ((e101 389 _ (by first | decide | omega)).trans (kK)) hK (fun g h => (e101 389 _ (by first | decide | omega)).trans (kO g h)) hO (fun g h => (e101 389 _ (by first | decide | omega)).trans (kN g h)) hN
        refine gx_call0 rfl rfl g101 rfl rfl r115 rfl ?_
        have k16 : ai_hv t115 389 6 = some (.inl K) := (i115.2 389 6 (by first | decide | omega)).trans k2
        have k17 : ai_hv t115 383 0 = some (.inl 0) := (i115.2 383 0 (by first | decide | omega)).trans k101
        show en_ex _ _ _ _ (47, [(0, gx_r 383), (1, .inl g), (2, .inl x), (3, .inl e)], [], t115, n, 0) _
        refine ex_go (S := (48, [(0, gx_r 383), (1, .inl g), (2, .inl x), (3, .inl e)], [gx_r 383], t115, n, 0)) rfl (fun _ => rfl) rfl ?_
        refine ex_go (S := (49, [(0, gx_r 383), (1, .inl g), (2, .inl x), (3, .inl e)], [.inl g, gx_r 383], t115, n, 0)) rfl (fun _ => rfl) rfl ?_
        refine ex_go (S := (50, [(0, gx_r 383), (1, .inl g), (2, .inl x), (3, .inl e)], [.inl x, .inl g, gx_r 383], t115, n, 0)) rfl (fun _ => rfl) rfl ?_
        refine ex_go (S := (51, [(0, gx_r 383), (1, .inl g), (2, .inl x), (3, .inl e)], [.inl e, .inl x, .inl g, gx_r 383], t115, n, 0)) rfl (fun _ => rfl) rfl ?_
        have hbx := gR_le (Q := N) hO (K - (g + 1)) (by first | decide | omega) e 3
        have hby := gR_le (Q := N) hO (K - g) (by first | decide | omega) e x
        have hbz := gG_le (q := N g) (w := x) hbx
        obtain ⟨_, r18, rfl⟩ := pe_goes (d + 2) n (g := g) (w := x) (e := e) (K := K) g115 ((i115.2 389 6 (by first | decide | omega)).trans ((e101 389 6 (by first | decide | omega)).trans (kK))) hK (by first | decide | omega) ((i115.2 389 _ (by first | decide | omega)).trans ((e101 389 _ (by first | decide | omega)).trans (kN g (by first | decide | omega)))) (hN g (by first | decide | omega)) (fun z => by rw [show K - (g + 1) = 0 by omega]; rfl) (fun z => i115.1 (g + 1) (by first | decide | omega) (by first | decide | omega) e (by first | decide | omega) 3 (by first | decide | omega)) hbx
        refine gx_call1 rfl rfl g115 rfl rfl r18 rfl ?_
        show en_ex _ _ _ _ (54, [(0, gx_r 383), (1, .inl g), (2, .inl x), (3, .inl e)], [.inl (gG (N g) x (gR O N K (K - (g + 1)) e 3))], t115, n, 0) _
        refine ex_go (S := (55, [(0, gx_r 383), (1, .inl g), (2, .inl x), (3, .inl e)], [gx_r 383, .inl (gG (N g) x (gR O N K (K - (g + 1)) e 3))], t115, n, 0)) rfl (fun _ => rfl) rfl ?_
        refine ex_go (S := (56, [(0, gx_r 383), (1, .inl g), (2, .inl x), (3, .inl e)], [.inl g, gx_r 383, .inl (gG (N g) x (gR O N K (K - (g + 1)) e 3))], t115, n, 0)) rfl (fun _ => rfl) rfl ?_
        refine ex_go (S := (57, [(0, gx_r 383), (1, .inl g), (2, .inl x), (3, .inl e)], [.inl 1, .inl g, gx_r 383, .inl (gG (N g) x (gR O N K (K - (g + 1)) e 3))], t115, n, 0)) rfl (fun _ => rfl) rfl ?_
        refine ex_go (S := (58, [(0, gx_r 383), (1, .inl g), (2, .inl x), (3, .inl e)], [.inl x, .inl 1, .inl g, gx_r 383, .inl (gG (N g) x (gR O N K (K - (g + 1)) e 3))], t115, n, 0)) rfl (fun _ => rfl) rfl ?_
        refine ex_iadd rfl (by first | decide | omega) rfl ?_
        refine ex_go (S := (60, [(0, gx_r 383), (1, .inl g), (2, .inl x), (3, .inl e)], [.inl e, .inl (1 + x), .inl g, gx_r 383, .inl (gG (N g) x (gR O N K (K - (g + 1)) e 3))], t115, n, 0)) rfl (fun _ => rfl) rfl ?_
        obtain ⟨_, r19, rfl⟩ := pe_chanceAt (d + 3) n (g := g) (h := 1 + x) (e := e) (v := gR O N K (K - g) e x) g115 ((i115.2 389 6 (by first | decide | omega)).trans ((e101 389 6 (by first | decide | omega)).trans (kK))) hK (by first | decide | omega) (fun z => by omega) (fun z => by have h9 := i115.1 g (by first | decide | omega) (by first | decide | omega) e (by first | decide | omega) x (by first | decide | omega); have h8 : rh x = 1 + x := (by unfold rh; split <;> omega); rw [h8] at h9; exact h9)
        refine gx_call1 rfl rfl g115 rfl rfl r19 rfl ?_
        show en_ex _ _ _ _ (63, [(0, gx_r 383), (1, .inl g), (2, .inl x), (3, .inl e)], [.inl (gR O N K (K - g) e x), .inl (gG (N g) x (gR O N K (K - (g + 1)) e 3))], t115, n, 0) _
        by_cases hc20 : gG (N g) x (gR O N K (K - (g + 1)) e 3) < gR O N K (K - g) e x
        · refine gx_2t (c := .lt) rfl (by first | decide | omega) (by first | decide | omega) hc20 rfl ?_
          refine ex_go (S := (71, [(0, gx_r 383), (1, .inl g), (2, .inl x), (3, .inl e)], [.inl 0], t115, n, 0)) rfl (fun _ => rfl) rfl ?_
          refine ex_ret (r := (some (.inl 0), t115, n, 0)) rfl (fun _ => rfl) ?_
          exact ⟨_, rfl, _, t115, rfl, fun _ => by rw [if_neg (by first | decide | omega)], fun h => absurd h (by first | decide | omega)⟩
        · refine gx_2f (c := .lt) rfl (by first | decide | omega) (by first | decide | omega) hc20 rfl ?_
          refine ex_go (S := (67, [(0, gx_r 383), (1, .inl g), (2, .inl x), (3, .inl e)], [.inl 1], t115, n, 0)) rfl (fun _ => rfl) rfl ?_
          refine ex_go (S := (71, [(0, gx_r 383), (1, .inl g), (2, .inl x), (3, .inl e)], [.inl 1], t115, n, 0)) rfl (fun _ => rfl) rfl ?_
          refine ex_ret (r := (some (.inl 1), t115, n, 0)) rfl (fun _ => rfl) ?_
          exact ⟨_, rfl, _, t115, rfl, fun _ => by rw [if_pos (by first | decide | omega)], fun h => absurd h (by first | decide | omega)⟩
      · refine gx_1f (c := .ne) rfl (by first | decide | omega) hc14 rfl ?_
        refine ex_go (S := (42, [(0, gx_r 383), (1, .inl g), (2, .inl x), (3, .inl e)], [.inl 4294967295], t101, n, 0)) rfl (fun _ => rfl) rfl ?_
        refine ex_ret (r := (some (.inl 4294967295), t101, n, 0)) rfl (fun _ => rfl) ?_
        exact ⟨_, rfl, _, t101, rfl, fun h => absurd h (by first | decide | omega), fun _ => rfl⟩
end SZM
