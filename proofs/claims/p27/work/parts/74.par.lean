section PK1
theorem pk_wrong (d n : Nat) {t0 : en_H} {a f w : Nat} (s0 : px_S t0 a f) (hw : w ≤ 5 ∧ 1 ≤ w) : ∃ r, en_u (d + 1) 101 [gx_r 383, .inl w] t0 n = some r ∧ ∃ t' a' f', r = (none, t', n, 0) ∧ px_S t' a' f' ∧ px_F t0 t' ∧ (a' = a ∧ (f ≠ 0 → f' = f) ∧ 1 ≤ f') := by
  have b0 := s0.2.2.2
  refine en_u_ex rfl ?_
  show en_ex _ _ _ _ (0, [(0, gx_r 383), (1, .inl w)], [], t0, n, 0) _
  refine ex_go (S := (1, [(0, gx_r 383), (1, .inl w)], [gx_r 383], t0, n, 0)) rfl (fun _ => rfl) rfl ?_
  refine gx_get rfl s0.1 rfl s0.2.2.1 rfl ?_
  by_cases hc1 : f ≠ 0
  · refine gx_1t (c := .ne) rfl (by first | decide | omega) hc1 rfl ?_
    refine ex_ret (r := (none, t0, n, 0)) rfl (fun _ => rfl) ?_
    exact ⟨_, rfl, t0, a, f, rfl, s0, (fun _ _ _ => rfl), by omega⟩
  · refine gx_1f (c := .ne) rfl (by first | decide | omega) hc1 rfl ?_
    refine ex_go (S := (8, [(0, gx_r 383), (1, .inl w)], [gx_r 383], t0, n, 0)) rfl (fun _ => rfl) rfl ?_
    refine ex_go (S := (9, [(0, gx_r 383), (1, .inl w)], [.inl w, gx_r 383], t0, n, 0)) rfl (fun _ => rfl) rfl ?_
    refine ex_go (S := (11, [(0, gx_r 383), (1, .inl w)], [.inl 16, .inl w, gx_r 383], t0, n, 0)) rfl (fun _ => rfl) rfl ?_
    refine ex_go (S := (12, [(0, gx_r 383), (1, .inl w)], [gx_r 383, .inl 16, .inl w, gx_r 383], t0, n, 0)) rfl (fun _ => rfl) rfl ?_
    refine gx_ref (c := 386) rfl s0.1 rfl rfl rfl rfl ?_
    refine ex_go (S := (16, [(0, gx_r 383), (1, .inl w)], [gx_r 383, gx_r 386, .inl 16, .inl w, gx_r 383], t0, n, 0)) rfl (fun _ => rfl) rfl ?_
    refine gx_get rfl s0.1 rfl s0.2.1 rfl ?_
    obtain ⟨m2, k3, m2b⟩ := gx_place s0.1 (i := a) (by first | decide | omega)
    refine gx_ag (v := .inl m2) (cb := fun c => Nat.beq c 0) rfl (fun _ => rfl) s0.1 rfl rfl k3 (by first | decide | omega) rfl ?_
    refine gx_imul rfl (by first | decide | omega) rfl ?_
    refine ex_iadd rfl (by first | decide | omega) rfl ?_
    refine gx_put rfl s0.1 rfl rfl (ai_in_h (by first | decide | omega) (by first | decide | omega) (by first | decide | omega)) rfl (fun t104 g104 k104 e104 => ?_)
    have k5 : ai_hv t104 386 a = some (.inl m2) := (e104 386 a (by first | decide | omega)).trans k3
    have s104 : px_S t104 a (w + (16 * m2)) := ⟨g104, (e104 383 7 (by first | decide | omega)).trans s0.2.1, k104, s0.2.2.2.1, by omega⟩
    refine ex_ret (r := (none, t104, n, 0)) rfl (fun _ => rfl) ?_
    exact ⟨_, rfl, t104, a, w + (16 * m2), rfl, s104, (fun c i h => e104 c i (by first | decide | omega)), by omega⟩
theorem pk_isSign (d n : Nat) {t0 : en_H} {a f w : Nat} (s0 : px_S t0 a f) : ∃ r, en_u (d + 1) 185 [gx_r 383, .inl w] t0 n = some r ∧ ∃ b, r = (some (.inl b), t0, n, 0) ∧ ((b ≤ 1 ∧ (b = 1 → f = 0 ∧ a ≤ 999)) ∧ (b = 1 ↔ px_sg t0 a f w)) := by
  have b0 := s0.2.2.2
  refine en_u_ex rfl ?_
  show en_ex _ _ _ _ (0, [(0, gx_r 383), (1, .inl w)], [], t0, n, 0) _
  refine ex_go (S := (1, [(0, gx_r 383), (1, .inl w)], [gx_r 383], t0, n, 0)) rfl (fun _ => rfl) rfl ?_
  refine gx_get rfl s0.1 rfl s0.2.2.1 rfl ?_
  by_cases hc1 : f ≠ 0
  · refine gx_1t (c := .ne) rfl (by first | decide | omega) hc1 rfl ?_
    refine ex_go (S := (40, [(0, gx_r 383), (1, .inl w)], [.inl 0], t0, n, 0)) rfl (fun _ => rfl) rfl ?_
    refine ex_ret (r := (some (.inl 0), t0, n, 0)) rfl (fun _ => rfl) ?_
    exact ⟨_, rfl, 0, rfl, by omega, ⟨fun h => by omega, fun h => absurd h.1 (by first | decide | omega)⟩⟩
  · refine gx_1f (c := .ne) rfl (by first | decide | omega) hc1 rfl ?_
    refine ex_go (S := (8, [(0, gx_r 383), (1, .inl w)], [gx_r 383], t0, n, 0)) rfl (fun _ => rfl) rfl ?_
    refine gx_ref (c := 385) rfl s0.1 rfl rfl rfl rfl ?_
    refine ex_go (S := (12, [(0, gx_r 383), (1, .inl w)], [gx_r 383, gx_r 385], t0, n, 0)) rfl (fun _ => rfl) rfl ?_
    refine gx_get rfl s0.1 rfl s0.2.1 rfl ?_
    obtain ⟨m2, k3, m2b⟩ := gx_sort s0.1 (i := a) (by first | decide | omega)
    refine gx_ag (v := .inl m2) (cb := fun c => Nat.beq c 0) rfl (fun _ => rfl) s0.1 rfl rfl k3 (by first | decide | omega) rfl ?_
    refine ex_go (S := (17, [(0, gx_r 383), (1, .inl w)], [.inl 3, .inl m2], t0, n, 0)) rfl (fun _ => rfl) rfl ?_
    by_cases hc4 : m2 ≠ 3
    · refine gx_2t (c := .ne) rfl (by first | decide | omega) (by first | decide | omega) hc4 rfl ?_
      refine ex_go (S := (40, [(0, gx_r 383), (1, .inl w)], [.inl 0], t0, n, 0)) rfl (fun _ => rfl) rfl ?_
      refine ex_ret (r := (some (.inl 0), t0, n, 0)) rfl (fun _ => rfl) ?_
      exact ⟨_, rfl, 0, rfl, by omega, ⟨fun h => by omega, fun h => by have h2 := h.2.1; rw [k3] at h2; cases h2; omega⟩⟩
    · refine gx_2f (c := .ne) rfl (by first | decide | omega) (by first | decide | omega) hc4 rfl ?_
      refine ex_go (S := (21, [(0, gx_r 383), (1, .inl w)], [gx_r 383], t0, n, 0)) rfl (fun _ => rfl) rfl ?_
      refine gx_ref (c := 387) rfl s0.1 rfl rfl rfl rfl ?_
      refine ex_go (S := (25, [(0, gx_r 383), (1, .inl w)], [gx_r 383, gx_r 387], t0, n, 0)) rfl (fun _ => rfl) rfl ?_
      refine gx_get rfl s0.1 rfl s0.2.1 rfl ?_
      obtain ⟨m5, k6⟩ := gx_long_387 s0.1 (i := a) (by first | decide | omega)
      refine gx_ag (v := .inr (.inl m5)) (cb := fun c => Nat.beq c 3) rfl (fun _ => rfl) s0.1 rfl rfl k6 (by first | decide | omega) rfl ?_
      refine ex_go (S := (30, [(0, gx_r 383), (1, .inl w)], [.inl w, .inr (.inl m5)], t0, n, 0)) rfl (fun _ => rfl) rfl ?_
      refine ex_go (S := (31, [(0, gx_r 383), (1, .inl w)], [.inr (.inl ((nI w).toInt64.toBitVec.toNat)), .inr (.inl m5)], t0, n, 0)) rfl (fun _ => rfl) rfl ?_
      refine gx_lcmp rfl rfl (fun hl7 => ?_) (fun hl7 => ?_) (fun hl7 => ?_)
      · refine ex_go (S := (35, [(0, gx_r 383), (1, .inl w)], [], t0, n, 0)) rfl (fun _ => rfl) rfl ?_
        refine ex_go (S := (36, [(0, gx_r 383), (1, .inl w)], [.inl 1], t0, n, 0)) rfl (fun _ => rfl) rfl ?_
        refine ex_go (S := (40, [(0, gx_r 383), (1, .inl w)], [.inl 1], t0, n, 0)) rfl (fun _ => rfl) rfl ?_
        refine ex_ret (r := (some (.inl 1), t0, n, 0)) rfl (fun _ => rfl) ?_
        exact ⟨_, rfl, 1, rfl, by omega, ⟨fun _ => ⟨by omega, by rw [k3, show m2 = 3 by omega], m5, k6, hl7⟩, fun _ => rfl⟩⟩
      · refine ex_go (S := (39, [(0, gx_r 383), (1, .inl w)], [], t0, n, 0)) rfl (fun _ => rfl) rfl ?_
        refine ex_go (S := (40, [(0, gx_r 383), (1, .inl w)], [.inl 0], t0, n, 0)) rfl (fun _ => rfl) rfl ?_
        refine ex_ret (r := (some (.inl 0), t0, n, 0)) rfl (fun _ => rfl) ?_
        exact ⟨_, rfl, 0, rfl, by omega, ⟨fun h => by omega, fun h => by obtain ⟨m, h3, h4⟩ := h.2.2; rw [k6] at h3; cases h3; omega⟩⟩
      · refine ex_go (S := (39, [(0, gx_r 383), (1, .inl w)], [], t0, n, 0)) rfl (fun _ => rfl) rfl ?_
        refine ex_go (S := (40, [(0, gx_r 383), (1, .inl w)], [.inl 0], t0, n, 0)) rfl (fun _ => rfl) rfl ?_
        refine ex_ret (r := (some (.inl 0), t0, n, 0)) rfl (fun _ => rfl) ?_
        exact ⟨_, rfl, 0, rfl, by omega, ⟨fun h => by omega, fun h => by obtain ⟨m, h3, h4⟩ := h.2.2; rw [k6] at h3; cases h3; omega⟩⟩
theorem pk_isWord (d n : Nat) {t0 : en_H} {a f w : Nat} (s0 : px_S t0 a f) (hw : w < 42) : ∃ r, en_u (d + 1) 99 [gx_r 383, .inl w] t0 n = some r ∧ ∃ b, r = (some (.inl b), t0, n, 0) ∧ ((b ≤ 1 ∧ (b = 1 → f = 0 ∧ a ≤ 999)) ∧ (b = 1 ↔ px_wd t0 a f w)) := by
  have b0 := s0.2.2.2
  refine en_u_ex rfl ?_
  show en_ex _ _ _ _ (0, [(0, gx_r 383), (1, .inl w)], [], t0, n, 0) _
  refine ex_go (S := (1, [(0, gx_r 383), (1, .inl w)], [gx_r 383], t0, n, 0)) rfl (fun _ => rfl) rfl ?_
  refine gx_get rfl s0.1 rfl s0.2.2.1 rfl ?_
  by_cases hc1 : f ≠ 0
  · refine gx_1t (c := .ne) rfl (by first | decide | omega) hc1 rfl ?_
    refine ex_go (S := (44, [(0, gx_r 383), (1, .inl w)], [.inl 0], t0, n, 0)) rfl (fun _ => rfl) rfl ?_
    refine ex_ret (r := (some (.inl 0), t0, n, 0)) rfl (fun _ => rfl) ?_
    exact ⟨_, rfl, 0, rfl, by omega, ⟨fun h => by omega, fun h => absurd h.1 (by first | decide | omega)⟩⟩
  · refine gx_1f (c := .ne) rfl (by first | decide | omega) hc1 rfl ?_
    refine ex_go (S := (8, [(0, gx_r 383), (1, .inl w)], [gx_r 383], t0, n, 0)) rfl (fun _ => rfl) rfl ?_
    refine gx_ref (c := 385) rfl s0.1 rfl rfl rfl rfl ?_
    refine ex_go (S := (12, [(0, gx_r 383), (1, .inl w)], [gx_r 383, gx_r 385], t0, n, 0)) rfl (fun _ => rfl) rfl ?_
    refine gx_get rfl s0.1 rfl s0.2.1 rfl ?_
    obtain ⟨m2, k3, m2b⟩ := gx_sort s0.1 (i := a) (by first | decide | omega)
    refine gx_ag (v := .inl m2) (cb := fun c => Nat.beq c 0) rfl (fun _ => rfl) s0.1 rfl rfl k3 (by first | decide | omega) rfl ?_
    refine ex_go (S := (17, [(0, gx_r 383), (1, .inl w)], [.inl 1, .inl m2], t0, n, 0)) rfl (fun _ => rfl) rfl ?_
    by_cases hc4 : m2 ≠ 1
    · refine gx_2t (c := .ne) rfl (by first | decide | omega) (by first | decide | omega) hc4 rfl ?_
      refine ex_go (S := (44, [(0, gx_r 383), (1, .inl w)], [.inl 0], t0, n, 0)) rfl (fun _ => rfl) rfl ?_
      refine ex_ret (r := (some (.inl 0), t0, n, 0)) rfl (fun _ => rfl) ?_
      exact ⟨_, rfl, 0, rfl, by omega, ⟨fun h => by omega, fun h => by have h2 := h.2.1; rw [k3] at h2; cases h2; omega⟩⟩
    · refine gx_2f (c := .ne) rfl (by first | decide | omega) (by first | decide | omega) hc4 rfl ?_
      refine ex_go (S := (21, [(0, gx_r 383), (1, .inl w)], [gx_r 383], t0, n, 0)) rfl (fun _ => rfl) rfl ?_
      refine gx_ref (c := 387) rfl s0.1 rfl rfl rfl rfl ?_
      refine ex_go (S := (25, [(0, gx_r 383), (1, .inl w)], [gx_r 383, gx_r 387], t0, n, 0)) rfl (fun _ => rfl) rfl ?_
      refine gx_get rfl s0.1 rfl s0.2.1 rfl ?_
      obtain ⟨m5, k6⟩ := gx_long_387 s0.1 (i := a) (by first | decide | omega)
      refine gx_ag (v := .inr (.inl m5)) (cb := fun c => Nat.beq c 3) rfl (fun _ => rfl) s0.1 rfl rfl k6 (by first | decide | omega) rfl ?_
      refine ex_go (S := (30, [(0, gx_r 383), (1, .inl w)], [gx_r 383, .inr (.inl m5)], t0, n, 0)) rfl (fun _ => rfl) rfl ?_
      refine gx_ref (c := 388) rfl s0.1 rfl rfl rfl rfl ?_
      refine ex_go (S := (34, [(0, gx_r 383), (1, .inl w)], [.inl w, gx_r 388, .inr (.inl m5)], t0, n, 0)) rfl (fun _ => rfl) rfl ?_
      obtain ⟨m7, k8⟩ := gx_long_388 s0.1 (i := w) (by first | decide | omega)
      refine gx_ag (v := .inr (.inl m7)) (cb := fun c => Nat.beq c 3) rfl (fun _ => rfl) s0.1 rfl rfl k8 (by first | decide | omega) rfl ?_
      refine gx_lcmp rfl rfl (fun hl9 => ?_) (fun hl9 => ?_) (fun hl9 => ?_)
      · refine ex_go (S := (39, [(0, gx_r 383), (1, .inl w)], [], t0, n, 0)) rfl (fun _ => rfl) rfl ?_
        refine ex_go (S := (40, [(0, gx_r 383), (1, .inl w)], [.inl 1], t0, n, 0)) rfl (fun _ => rfl) rfl ?_
        refine ex_go (S := (44, [(0, gx_r 383), (1, .inl w)], [.inl 1], t0, n, 0)) rfl (fun _ => rfl) rfl ?_
        refine ex_ret (r := (some (.inl 1), t0, n, 0)) rfl (fun _ => rfl) ?_
        exact ⟨_, rfl, 1, rfl, by omega, ⟨fun _ => ⟨by omega, by rw [k3, show m2 = 1 by omega], m5, m7, k6, k8, hl9⟩, fun _ => rfl⟩⟩
      · refine ex_go (S := (43, [(0, gx_r 383), (1, .inl w)], [], t0, n, 0)) rfl (fun _ => rfl) rfl ?_
        refine ex_go (S := (44, [(0, gx_r 383), (1, .inl w)], [.inl 0], t0, n, 0)) rfl (fun _ => rfl) rfl ?_
        refine ex_ret (r := (some (.inl 0), t0, n, 0)) rfl (fun _ => rfl) ?_
        exact ⟨_, rfl, 0, rfl, by omega, ⟨fun h => by omega, fun h => by obtain ⟨m, m9, h3, h5, h4⟩ := h.2.2; rw [k6] at h3; rw [k8] at h5; cases h3; cases h5; omega⟩⟩
      · refine ex_go (S := (43, [(0, gx_r 383), (1, .inl w)], [], t0, n, 0)) rfl (fun _ => rfl) rfl ?_
        refine ex_go (S := (44, [(0, gx_r 383), (1, .inl w)], [.inl 0], t0, n, 0)) rfl (fun _ => rfl) rfl ?_
        refine ex_ret (r := (some (.inl 0), t0, n, 0)) rfl (fun _ => rfl) ?_
        exact ⟨_, rfl, 0, rfl, by omega, ⟨fun h => by omega, fun h => by obtain ⟨m, m9, h3, h5, h4⟩ := h.2.2; rw [k6] at h3; rw [k8] at h5; cases h3; cases h5; omega⟩⟩
theorem pk_takeSign (d n : Nat) {t0 : en_H} {a f w : Nat} (s0 : px_S t0 a f) : ∃ r, en_u (d + 2) 96 [gx_r 383, .inl w] t0 n = some r ∧ ∃ t' a' f', r = (none, t', n, 0) ∧ px_S t' a' f' ∧ px_F t0 t' ∧ (a ≤ a' ∧ a' ≤ a + 1 ∧ (f ≠ 0 → f' = f ∧ a' = a) ∧ (f' = 0 → f = 0 ∧ a' = a + 1)) := by
  have b0 := s0.2.2.2
  refine en_u_ex (d := d + 1) rfl ?_
  show en_ex _ _ _ _ (0, [(0, gx_r 383), (1, .inl w)], [], t0, n, 0) _
  refine ex_go (S := (1, [(0, gx_r 383), (1, .inl w)], [gx_r 383], t0, n, 0)) rfl (fun _ => rfl) rfl ?_
  refine ex_go (S := (2, [(0, gx_r 383), (1, .inl w)], [.inl w, gx_r 383], t0, n, 0)) rfl (fun _ => rfl) rfl ?_
  obtain ⟨_, r3, b1, rfl, q2⟩ := pk_isSign d n (s0) (w := w)
  refine gx_call1 rfl rfl s0.1 rfl rfl r3 rfl ?_
  by_cases hc4 : b1 = 0
  · refine gx_1t (c := .eq) rfl (by first | decide | omega) hc4 rfl ?_
    refine ex_go (S := (22, [(0, gx_r 383), (1, .inl w)], [gx_r 383], t0, n, 0)) rfl (fun _ => rfl) rfl ?_
    refine ex_go (S := (23, [(0, gx_r 383), (1, .inl w)], [.inl 1, gx_r 383], t0, n, 0)) rfl (fun _ => rfl) rfl ?_
    obtain ⟨_, r105, t105, a105, f105, rfl, s105, e105, q105⟩ := pk_wrong d n (s0) (w := 1) (by first | decide | omega)
    have b105 := s105.2.2.2
    refine gx_call0 rfl rfl s0.1 rfl rfl r105 rfl ?_
    refine ex_ret (r := (none, t105, n, 0)) rfl (fun _ => rfl) ?_
    exact ⟨_, rfl, t105, a105, f105, rfl, s105, (fun c i h => e105 c i (by first | decide | omega)), by omega⟩
  · refine gx_1f (c := .eq) rfl (by first | decide | omega) hc4 rfl ?_
    refine ex_go (S := (9, [(0, gx_r 383), (1, .inl w)], [gx_r 383], t0, n, 0)) rfl (fun _ => rfl) rfl ?_
    refine ex_go (S := (10, [(0, gx_r 383), (1, .inl w)], [gx_r 383, gx_r 383], t0, n, 0)) rfl (fun _ => rfl) rfl ?_
    refine gx_get rfl s0.1 rfl s0.2.1 rfl ?_
    refine ex_go (S := (14, [(0, gx_r 383), (1, .inl w)], [.inl 1, .inl a, gx_r 383], t0, n, 0)) rfl (fun _ => rfl) rfl ?_
    refine ex_iadd rfl (by first | decide | omega) rfl ?_
    refine gx_put rfl s0.1 rfl rfl (ai_in_h (by first | decide | omega) (by first | decide | omega) (by first | decide | omega)) rfl (fun t106 g106 k106 e106 => ?_)
    have s106 : px_S t106 (a + 1) f := ⟨g106, k106, (e106 383 8 (by first | decide | omega)).trans s0.2.2.1, by omega, s0.2.2.2.2⟩
    refine ex_go (S := (26, [(0, gx_r 383), (1, .inl w)], [], t106, n, 0)) rfl (fun _ => rfl) rfl ?_
    refine ex_ret (r := (none, t106, n, 0)) rfl (fun _ => rfl) ?_
    exact ⟨_, rfl, t106, a + 1, f, rfl, s106, (fun c i h => e106 c i (by first | decide | omega)), by omega⟩
theorem pk_hasSign (d n : Nat) {t0 : en_H} {a f w : Nat} (s0 : px_S t0 a f) : ∃ r, en_u (d + 2) 283 [gx_r 383, .inl w] t0 n = some r ∧ ∃ v t' a' f', r = (some (.inl v), t', n, 0) ∧ px_S t' a' f' ∧ px_F t0 t' ∧ ((v ≤ 1 ∧ f' = f ∧ a' = a + v ∧ (v = 1 → f = 0)) ∧ (v = 1 ↔ px_sg t0 a f w)) := by
  have b0 := s0.2.2.2
  refine en_u_ex (d := d + 1) rfl ?_
  show en_ex _ _ _ _ (0, [(0, gx_r 383), (1, .inl w)], [], t0, n, 0) _
  refine ex_go (S := (1, [(0, gx_r 383), (1, .inl w)], [gx_r 383], t0, n, 0)) rfl (fun _ => rfl) rfl ?_
  refine ex_go (S := (2, [(0, gx_r 383), (1, .inl w)], [.inl w, gx_r 383], t0, n, 0)) rfl (fun _ => rfl) rfl ?_
  obtain ⟨_, r3, b1, rfl, q2⟩ := pk_isSign d n (s0) (w := w)
  refine gx_call1 rfl rfl s0.1 rfl rfl r3 rfl ?_
  refine ex_go (S := (6, [(2, .inl b1), (0, gx_r 383), (1, .inl w)], [], t0, n, 0)) rfl (fun _ => rfl) rfl ?_
  refine ex_go (S := (7, [(2, .inl b1), (0, gx_r 383), (1, .inl w)], [gx_r 383], t0, n, 0)) rfl (fun _ => rfl) rfl ?_
  refine ex_go (S := (8, [(2, .inl b1), (0, gx_r 383), (1, .inl w)], [gx_r 383, gx_r 383], t0, n, 0)) rfl (fun _ => rfl) rfl ?_
  refine gx_get rfl s0.1 rfl s0.2.1 rfl ?_
  refine ex_go (S := (12, [(2, .inl b1), (0, gx_r 383), (1, .inl w)], [.inl b1, .inl a, gx_r 383], t0, n, 0)) rfl (fun _ => rfl) rfl ?_
  by_cases hc4 : b1 = 0
  · refine gx_1t (c := .eq) rfl (by first | decide | omega) hc4 rfl ?_
    refine ex_go (S := (20, [(2, .inl b1), (0, gx_r 383), (1, .inl w)], [.inl 0, .inl a, gx_r 383], t0, n, 0)) rfl (fun _ => rfl) rfl ?_
    refine ex_iadd rfl (by first | decide | omega) rfl ?_
    refine gx_put rfl s0.1 rfl rfl (ai_in_h (by first | decide | omega) (by first | decide | omega) (by first | decide | omega)) rfl (fun t105 g105 k105 e105 => ?_)
    have s105 : px_S t105 (a + 0) f := ⟨g105, k105, (e105 383 8 (by first | decide | omega)).trans s0.2.2.1, by omega, s0.2.2.2.2⟩
    refine ex_go (S := (25, [(2, .inl b1), (0, gx_r 383), (1, .inl w)], [.inl b1], t105, n, 0)) rfl (fun _ => rfl) rfl ?_
    refine gx_retb rfl (by first | decide | omega) ?_
    exact ⟨_, rfl, b1, t105, a + 0, f, rfl, s105, (fun c i h => e105 c i (by first | decide | omega)), by omega, q2.2⟩
  · refine gx_1f (c := .eq) rfl (by first | decide | omega) hc4 rfl ?_
    refine ex_go (S := (16, [(2, .inl b1), (0, gx_r 383), (1, .inl w)], [.inl 1, .inl a, gx_r 383], t0, n, 0)) rfl (fun _ => rfl) rfl ?_
    refine ex_go (S := (20, [(2, .inl b1), (0, gx_r 383), (1, .inl w)], [.inl 1, .inl a, gx_r 383], t0, n, 0)) rfl (fun _ => rfl) rfl ?_
    refine ex_iadd rfl (by first | decide | omega) rfl ?_
    refine gx_put rfl s0.1 rfl rfl (ai_in_h (by first | decide | omega) (by first | decide | omega) (by first | decide | omega)) rfl (fun t106 g106 k106 e106 => ?_)
    have s106 : px_S t106 (a + 1) f := ⟨g106, k106, (e106 383 8 (by first | decide | omega)).trans s0.2.2.1, by omega, s0.2.2.2.2⟩
    refine ex_go (S := (25, [(2, .inl b1), (0, gx_r 383), (1, .inl w)], [.inl b1], t106, n, 0)) rfl (fun _ => rfl) rfl ?_
    refine gx_retb rfl (by first | decide | omega) ?_
    exact ⟨_, rfl, b1, t106, a + 1, f, rfl, s106, (fun c i h => e106 c i (by first | decide | omega)), by omega, q2.2⟩
theorem pk_hasWord (d n : Nat) {t0 : en_H} {a f w : Nat} (s0 : px_S t0 a f) (hw : w < 42) : ∃ r, en_u (d + 2) 184 [gx_r 383, .inl w] t0 n = some r ∧ ∃ v t' a' f', r = (some (.inl v), t', n, 0) ∧ px_S t' a' f' ∧ px_F t0 t' ∧ ((v ≤ 1 ∧ f' = f ∧ a' = a + v ∧ (v = 1 → f = 0)) ∧ (v = 1 ↔ px_wd t0 a f w)) := by
  have b0 := s0.2.2.2
  refine en_u_ex (d := d + 1) rfl ?_
  show en_ex _ _ _ _ (0, [(0, gx_r 383), (1, .inl w)], [], t0, n, 0) _
  refine ex_go (S := (1, [(0, gx_r 383), (1, .inl w)], [gx_r 383], t0, n, 0)) rfl (fun _ => rfl) rfl ?_
  refine ex_go (S := (2, [(0, gx_r 383), (1, .inl w)], [.inl w, gx_r 383], t0, n, 0)) rfl (fun _ => rfl) rfl ?_
  obtain ⟨_, r3, b1, rfl, q2⟩ := pk_isWord d n (s0) (w := w) (by first | decide | omega)
  refine gx_call1 rfl rfl s0.1 rfl rfl r3 rfl ?_
  refine ex_go (S := (6, [(2, .inl b1), (0, gx_r 383), (1, .inl w)], [], t0, n, 0)) rfl (fun _ => rfl) rfl ?_
  refine ex_go (S := (7, [(2, .inl b1), (0, gx_r 383), (1, .inl w)], [gx_r 383], t0, n, 0)) rfl (fun _ => rfl) rfl ?_
  refine ex_go (S := (8, [(2, .inl b1), (0, gx_r 383), (1, .inl w)], [gx_r 383, gx_r 383], t0, n, 0)) rfl (fun _ => rfl) rfl ?_
  refine gx_get rfl s0.1 rfl s0.2.1 rfl ?_
  refine ex_go (S := (12, [(2, .inl b1), (0, gx_r 383), (1, .inl w)], [.inl b1, .inl a, gx_r 383], t0, n, 0)) rfl (fun _ => rfl) rfl ?_
  by_cases hc4 : b1 = 0
  · refine gx_1t (c := .eq) rfl (by first | decide | omega) hc4 rfl ?_
    refine ex_go (S := (20, [(2, .inl b1), (0, gx_r 383), (1, .inl w)], [.inl 0, .inl a, gx_r 383], t0, n, 0)) rfl (fun _ => rfl) rfl ?_
    refine ex_iadd rfl (by first | decide | omega) rfl ?_
    refine gx_put rfl s0.1 rfl rfl (ai_in_h (by first | decide | omega) (by first | decide | omega) (by first | decide | omega)) rfl (fun t105 g105 k105 e105 => ?_)
    have s105 : px_S t105 (a + 0) f := ⟨g105, k105, (e105 383 8 (by first | decide | omega)).trans s0.2.2.1, by omega, s0.2.2.2.2⟩
    refine ex_go (S := (25, [(2, .inl b1), (0, gx_r 383), (1, .inl w)], [.inl b1], t105, n, 0)) rfl (fun _ => rfl) rfl ?_
    refine gx_retb rfl (by first | decide | omega) ?_
    exact ⟨_, rfl, b1, t105, a + 0, f, rfl, s105, (fun c i h => e105 c i (by first | decide | omega)), by omega, q2.2⟩
  · refine gx_1f (c := .eq) rfl (by first | decide | omega) hc4 rfl ?_
    refine ex_go (S := (16, [(2, .inl b1), (0, gx_r 383), (1, .inl w)], [.inl 1, .inl a, gx_r 383], t0, n, 0)) rfl (fun _ => rfl) rfl ?_
    refine ex_go (S := (20, [(2, .inl b1), (0, gx_r 383), (1, .inl w)], [.inl 1, .inl a, gx_r 383], t0, n, 0)) rfl (fun _ => rfl) rfl ?_
    refine ex_iadd rfl (by first | decide | omega) rfl ?_
    refine gx_put rfl s0.1 rfl rfl (ai_in_h (by first | decide | omega) (by first | decide | omega) (by first | decide | omega)) rfl (fun t106 g106 k106 e106 => ?_)
    have s106 : px_S t106 (a + 1) f := ⟨g106, k106, (e106 383 8 (by first | decide | omega)).trans s0.2.2.1, by omega, s0.2.2.2.2⟩
    refine ex_go (S := (25, [(2, .inl b1), (0, gx_r 383), (1, .inl w)], [.inl b1], t106, n, 0)) rfl (fun _ => rfl) rfl ?_
    refine gx_retb rfl (by first | decide | omega) ?_
    exact ⟨_, rfl, b1, t106, a + 1, f, rfl, s106, (fun c i h => e106 c i (by first | decide | omega)), by omega, q2.2⟩
theorem pk_takeWord (d n : Nat) {t0 : en_H} {a f w : Nat} (s0 : px_S t0 a f) (hw : w < 42) : ∃ r, en_u (d + 3) 94 [gx_r 383, .inl w] t0 n = some r ∧ ∃ t' a' f', r = (none, t', n, 0) ∧ px_S t' a' f' ∧ px_F t0 t' ∧ (a ≤ a' ∧ a' ≤ a + 1 ∧ (f ≠ 0 → f' = f ∧ a' = a) ∧ (f' = 0 → f = 0 ∧ a' = a + 1)) := by
  have b0 := s0.2.2.2
  refine en_u_ex (d := d + 2) rfl ?_
  show en_ex _ _ _ _ (0, [(0, gx_r 383), (1, .inl w)], [], t0, n, 0) _
  refine ex_go (S := (1, [(0, gx_r 383), (1, .inl w)], [gx_r 383], t0, n, 0)) rfl (fun _ => rfl) rfl ?_
  refine ex_go (S := (2, [(0, gx_r 383), (1, .inl w)], [.inl w, gx_r 383], t0, n, 0)) rfl (fun _ => rfl) rfl ?_
  obtain ⟨_, r101, v101, t101, a101, f101, rfl, s101, e101, q101⟩ := pk_hasWord d n (s0) (w := w) (by first | decide | omega)
  have b101 := s101.2.2.2
  refine gx_call1 rfl rfl s0.1 rfl rfl r101 rfl ?_
  by_cases hc2 : v101 ≠ 0
  · refine gx_1t (c := .ne) rfl (by first | decide | omega) hc2 rfl ?_
    refine ex_ret (r := (none, t101, n, 0)) rfl (fun _ => rfl) ?_
    exact ⟨_, rfl, t101, a101, f101, rfl, s101, (fun c i h => e101 c i (by first | decide | omega)), by omega⟩
  · refine gx_1f (c := .ne) rfl (by first | decide | omega) hc2 rfl ?_
    refine ex_go (S := (9, [(0, gx_r 383), (1, .inl w)], [gx_r 383], t101, n, 0)) rfl (fun _ => rfl) rfl ?_
    refine ex_go (S := (10, [(0, gx_r 383), (1, .inl w)], [.inl 1, gx_r 383], t101, n, 0)) rfl (fun _ => rfl) rfl ?_
    obtain ⟨_, r103, t103, a103, f103, rfl, s103, e103, q103⟩ := pk_wrong (d + 1) n (s101) (w := 1) (by first | decide | omega)
    have b103 := s103.2.2.2
    refine gx_call0 rfl rfl s101.1 rfl rfl r103 rfl ?_
    refine ex_ret (r := (none, t103, n, 0)) rfl (fun _ => rfl) ?_
    exact ⟨_, rfl, t103, a103, f103, rfl, s103, (fun c i h => (e103 c i (by first | decide | omega)).trans (e101 c i (by first | decide | omega))), by omega⟩
theorem pk_takeNumber (d n : Nat) {t0 : en_H} {a f lo hi : Nat} (s0 : px_S t0 a f) (h1 : lo < 2147483648) (h2 : f = 0 → hi < 2147483648) : ∃ r, en_u (d + 2) 95 [gx_r 383, .inl lo, .inl hi] t0 n = some r ∧ ∃ v t' a' f', r = (some (.inl v), t', n, 0) ∧ px_S t' a' f' ∧ px_F t0 t' ∧ (a ≤ a' ∧ a' ≤ a + 1 ∧ (f ≠ 0 → f' = f ∧ a' = a) ∧ (f' = 0 → f = 0 ∧ a' = a + 1 ∧ lo ≤ v ∧ v ≤ hi) ∧ (f' ≠ 0 → v = 0)) := by
  have b0 := s0.2.2.2
  refine en_u_ex (d := d + 1) rfl ?_
  show en_ex _ _ _ _ (0, [(0, gx_r 383), (1, .inl lo), (2, .inl hi)], [], t0, n, 0) _
  refine ex_go (S := (1, [(0, gx_r 383), (1, .inl lo), (2, .inl hi)], [gx_r 383], t0, n, 0)) rfl (fun _ => rfl) rfl ?_
  refine gx_get rfl s0.1 rfl s0.2.2.1 rfl ?_
  by_cases hc1 : f ≠ 0
  · refine gx_1t (c := .ne) rfl (by first | decide | omega) hc1 rfl ?_
    refine ex_go (S := (29, [(0, gx_r 383), (1, .inl lo), (2, .inl hi)], [gx_r 383], t0, n, 0)) rfl (fun _ => rfl) rfl ?_
    refine gx_get rfl s0.1 rfl s0.2.2.1 rfl ?_
    refine gx_1t (c := .ne) rfl (by first | decide | omega) (show f ≠ 0 from by omega) rfl ?_
    refine ex_go (S := (71, [(0, gx_r 383), (1, .inl lo), (2, .inl hi)], [gx_r 383], t0, n, 0)) rfl (fun _ => rfl) rfl ?_
    refine gx_get rfl s0.1 rfl s0.2.2.1 rfl ?_
    refine gx_1f (c := .le) rfl (by first | decide | omega) (show ¬ (f ≤ 0) from by omega) rfl ?_
    refine ex_go (S := (78, [(0, gx_r 383), (1, .inl lo), (2, .inl hi)], [.inl 0], t0, n, 0)) rfl (fun _ => rfl) rfl ?_
    refine ex_ret (r := (some (.inl 0), t0, n, 0)) rfl (fun _ => rfl) ?_
    exact ⟨_, rfl, 0, t0, a, f, rfl, s0, (fun _ _ _ => rfl), by omega⟩
  · refine gx_1f (c := .ne) rfl (by first | decide | omega) hc1 rfl ?_
    refine ex_go (S := (8, [(0, gx_r 383), (1, .inl lo), (2, .inl hi)], [gx_r 383], t0, n, 0)) rfl (fun _ => rfl) rfl ?_
    refine gx_ref (c := 385) rfl s0.1 rfl rfl rfl rfl ?_
    refine ex_go (S := (12, [(0, gx_r 383), (1, .inl lo), (2, .inl hi)], [gx_r 383, gx_r 385], t0, n, 0)) rfl (fun _ => rfl) rfl ?_
    refine gx_get rfl s0.1 rfl s0.2.1 rfl ?_
    obtain ⟨m2, k3, m2b⟩ := gx_sort s0.1 (i := a) (by first | decide | omega)
    refine gx_ag (v := .inl m2) (cb := fun c => Nat.beq c 0) rfl (fun _ => rfl) s0.1 rfl rfl k3 (by first | decide | omega) rfl ?_
    refine ex_go (S := (17, [(0, gx_r 383), (1, .inl lo), (2, .inl hi)], [.inl 2, .inl m2], t0, n, 0)) rfl (fun _ => rfl) rfl ?_
    by_cases hc4 : m2 = 2
    · refine gx_2t (c := .eq) rfl (by first | decide | omega) (by first | decide | omega) hc4 rfl ?_
      refine ex_go (S := (29, [(0, gx_r 383), (1, .inl lo), (2, .inl hi)], [gx_r 383], t0, n, 0)) rfl (fun _ => rfl) rfl ?_
      refine gx_get rfl s0.1 rfl s0.2.2.1 rfl ?_
      refine gx_1f (c := .ne) rfl (by first | decide | omega) (show ¬ (f ≠ 0) from by omega) rfl ?_
      refine ex_go (S := (36, [(0, gx_r 383), (1, .inl lo), (2, .inl hi)], [gx_r 383], t0, n, 0)) rfl (fun _ => rfl) rfl ?_
      refine gx_ref (c := 387) rfl s0.1 rfl rfl rfl rfl ?_
      refine ex_go (S := (40, [(0, gx_r 383), (1, .inl lo), (2, .inl hi)], [gx_r 383, gx_r 387], t0, n, 0)) rfl (fun _ => rfl) rfl ?_
      refine gx_get rfl s0.1 rfl s0.2.1 rfl ?_
      obtain ⟨m5, k6⟩ := gx_long_387 s0.1 (i := a) (by first | decide | omega)
      refine gx_ag (v := .inr (.inl m5)) (cb := fun c => Nat.beq c 3) rfl (fun _ => rfl) s0.1 rfl rfl k6 (by first | decide | omega) rfl ?_
      refine ex_go (S := (45, [(0, gx_r 383), (1, .inl lo), (2, .inl hi)], [.inl lo, .inr (.inl m5)], t0, n, 0)) rfl (fun _ => rfl) rfl ?_
      refine ex_go (S := (46, [(0, gx_r 383), (1, .inl lo), (2, .inl hi)], [.inr (.inl ((nI lo).toInt64.toBitVec.toNat)), .inr (.inl m5)], t0, n, 0)) rfl (fun _ => rfl) rfl ?_
      refine gx_lcmp rfl rfl (fun hl7 => ?_) (fun hl7 => ?_) (fun hl7 => ?_)
      · refine ex_go (S := (50, [(0, gx_r 383), (1, .inl lo), (2, .inl hi)], [], t0, n, 0)) rfl (fun _ => rfl) rfl ?_
        refine ex_go (S := (51, [(0, gx_r 383), (1, .inl lo), (2, .inl hi)], [gx_r 383], t0, n, 0)) rfl (fun _ => rfl) rfl ?_
        refine gx_ref (c := 387) rfl s0.1 rfl rfl rfl rfl ?_
        refine ex_go (S := (55, [(0, gx_r 383), (1, .inl lo), (2, .inl hi)], [gx_r 383, gx_r 387], t0, n, 0)) rfl (fun _ => rfl) rfl ?_
        refine gx_get rfl s0.1 rfl s0.2.1 rfl ?_
        refine gx_ag (v := .inr (.inl m5)) (cb := fun c => Nat.beq c 3) rfl (fun _ => rfl) s0.1 rfl rfl k6 (by first | decide | omega) rfl ?_
        refine ex_go (S := (60, [(0, gx_r 383), (1, .inl lo), (2, .inl hi)], [.inl hi, .inr (.inl m5)], t0, n, 0)) rfl (fun _ => rfl) rfl ?_
        refine ex_go (S := (61, [(0, gx_r 383), (1, .inl lo), (2, .inl hi)], [.inr (.inl ((nI hi).toInt64.toBitVec.toNat)), .inr (.inl m5)], t0, n, 0)) rfl (fun _ => rfl) rfl ?_
        refine gx_lcmp rfl rfl (fun hl8 => ?_) (fun hl8 => ?_) (fun hl8 => ?_)
        · refine ex_go (S := (70, [(0, gx_r 383), (1, .inl lo), (2, .inl hi)], [], t0, n, 0)) rfl (fun _ => rfl) rfl ?_
          refine ex_go (S := (71, [(0, gx_r 383), (1, .inl lo), (2, .inl hi)], [gx_r 383], t0, n, 0)) rfl (fun _ => rfl) rfl ?_
          refine gx_get rfl s0.1 rfl s0.2.2.1 rfl ?_
          refine gx_1t (c := .le) rfl (by first | decide | omega) (show f ≤ 0 from by omega) rfl ?_
          refine ex_go (S := (80, [(0, gx_r 383), (1, .inl lo), (2, .inl hi)], [gx_r 383], t0, n, 0)) rfl (fun _ => rfl) rfl ?_
          refine ex_go (S := (81, [(0, gx_r 383), (1, .inl lo), (2, .inl hi)], [gx_r 383, gx_r 383], t0, n, 0)) rfl (fun _ => rfl) rfl ?_
          refine gx_get rfl s0.1 rfl s0.2.1 rfl ?_
          refine ex_go (S := (85, [(0, gx_r 383), (1, .inl lo), (2, .inl hi)], [.inl 1, .inl a, gx_r 383], t0, n, 0)) rfl (fun _ => rfl) rfl ?_
          refine ex_iadd rfl (by first | decide | omega) rfl ?_
          refine gx_put rfl s0.1 rfl rfl (ai_in_h (by first | decide | omega) (by first | decide | omega) (by first | decide | omega)) rfl (fun t109 g109 k109 e109 => ?_)
          have k10 : ai_hv t109 385 a = some (.inl m2) := (e109 385 a (by first | decide | omega)).trans k3
          have k11 : ai_hv t109 387 a = some (.inr (.inl m5)) := (e109 387 a (by first | decide | omega)).trans k6
          have s109 : px_S t109 (a + 1) f := ⟨g109, k109, (e109 383 8 (by first | decide | omega)).trans s0.2.2.1, by omega, s0.2.2.2.2⟩
          refine ex_go (S := (90, [(0, gx_r 383), (1, .inl lo), (2, .inl hi)], [gx_r 383], t109, n, 0)) rfl (fun _ => rfl) rfl ?_
          refine gx_ref (c := 387) rfl s109.1 rfl rfl rfl rfl ?_
          refine ex_go (S := (94, [(0, gx_r 383), (1, .inl lo), (2, .inl hi)], [gx_r 383, gx_r 387], t109, n, 0)) rfl (fun _ => rfl) rfl ?_
          refine gx_get rfl s109.1 rfl s109.2.1 rfl ?_
          refine ex_go (S := (98, [(0, gx_r 383), (1, .inl lo), (2, .inl hi)], [.inl 1, .inl (a + 1), gx_r 387], t109, n, 0)) rfl (fun _ => rfl) rfl ?_
          refine gx_isub rfl (by first | decide | omega) (by first | decide | omega) rfl ?_
          have kv12 : ai_hv t109 387 ((a + 1) - 1) = some (.inr (.inl m5)) := by rw [show (a + 1) - 1 = a by omega]; exact k11
          refine gx_ag (v := .inr (.inl m5)) (cb := fun c => Nat.beq c 3) rfl (fun _ => rfl) s109.1 rfl rfl kv12 (by first | decide | omega) rfl ?_
          refine ex_go (S := (101, [(0, gx_r 383), (1, .inl lo), (2, .inl hi)], [.inl ((lN m5).toInt32.toBitVec.toNat)], t109, n, 0)) rfl (fun _ => rfl) rfl ?_
          have z13l := gx_i2l (x := lo) (by first | decide | omega)
          have z13h := gx_i2l (x := hi) (by first | decide | omega)
          obtain ⟨z13a, z13b⟩ := gx_l2i (m := m5) (lo := lo) (hi := hi) (by first | decide | omega) (by first | decide | omega) (by first | decide | omega)
          generalize (lN m5).toInt32.toBitVec.toNat = z13 at z13a z13b ⊢
          refine ex_ret (r := (some (.inl z13), t109, n, 0)) rfl (fun _ => rfl) ?_
          exact ⟨_, rfl, z13, t109, a + 1, f, rfl, s109, (fun c i h => e109 c i (by first | decide | omega)), by omega⟩
        · refine ex_go (S := (65, [(0, gx_r 383), (1, .inl lo), (2, .inl hi)], [], t0, n, 0)) rfl (fun _ => rfl) rfl ?_
          refine ex_go (S := (66, [(0, gx_r 383), (1, .inl lo), (2, .inl hi)], [gx_r 383], t0, n, 0)) rfl (fun _ => rfl) rfl ?_
          refine ex_go (S := (67, [(0, gx_r 383), (1, .inl lo), (2, .inl hi)], [.inl 4, gx_r 383], t0, n, 0)) rfl (fun _ => rfl) rfl ?_
          obtain ⟨_, r114, t114, a114, f114, rfl, s114, e114, q114⟩ := pk_wrong d n (s0) (w := 4) (by first | decide | omega)
          have b114 := s114.2.2.2
          refine gx_call0 rfl rfl s0.1 rfl rfl r114 rfl ?_
          have k15 : ai_hv t114 385 a = some (.inl m2) := (e114 385 a (by first | decide | omega)).trans k3
          have k16 : ai_hv t114 387 a = some (.inr (.inl m5)) := (e114 387 a (by first | decide | omega)).trans k6
          refine ex_go (S := (71, [(0, gx_r 383), (1, .inl lo), (2, .inl hi)], [gx_r 383], t114, n, 0)) rfl (fun _ => rfl) rfl ?_
          refine gx_get rfl s114.1 rfl s114.2.2.1 rfl ?_
          refine gx_1f (c := .le) rfl (by first | decide | omega) (show ¬ (f114 ≤ 0) from by omega) rfl ?_
          refine ex_go (S := (78, [(0, gx_r 383), (1, .inl lo), (2, .inl hi)], [.inl 0], t114, n, 0)) rfl (fun _ => rfl) rfl ?_
          refine ex_ret (r := (some (.inl 0), t114, n, 0)) rfl (fun _ => rfl) ?_
          exact ⟨_, rfl, 0, t114, a114, f114, rfl, s114, (fun c i h => e114 c i (by first | decide | omega)), by omega⟩
        · refine ex_go (S := (70, [(0, gx_r 383), (1, .inl lo), (2, .inl hi)], [], t0, n, 0)) rfl (fun _ => rfl) rfl ?_
          refine ex_go (S := (71, [(0, gx_r 383), (1, .inl lo), (2, .inl hi)], [gx_r 383], t0, n, 0)) rfl (fun _ => rfl) rfl ?_
          refine gx_get rfl s0.1 rfl s0.2.2.1 rfl ?_
          refine gx_1t (c := .le) rfl (by first | decide | omega) (show f ≤ 0 from by omega) rfl ?_
          refine ex_go (S := (80, [(0, gx_r 383), (1, .inl lo), (2, .inl hi)], [gx_r 383], t0, n, 0)) rfl (fun _ => rfl) rfl ?_
          refine ex_go (S := (81, [(0, gx_r 383), (1, .inl lo), (2, .inl hi)], [gx_r 383, gx_r 383], t0, n, 0)) rfl (fun _ => rfl) rfl ?_
          refine gx_get rfl s0.1 rfl s0.2.1 rfl ?_
          refine ex_go (S := (85, [(0, gx_r 383), (1, .inl lo), (2, .inl hi)], [.inl 1, .inl a, gx_r 383], t0, n, 0)) rfl (fun _ => rfl) rfl ?_
          refine ex_iadd rfl (by first | decide | omega) rfl ?_
          refine gx_put rfl s0.1 rfl rfl (ai_in_h (by first | decide | omega) (by first | decide | omega) (by first | decide | omega)) rfl (fun t117 g117 k117 e117 => ?_)
          have k18 : ai_hv t117 385 a = some (.inl m2) := (e117 385 a (by first | decide | omega)).trans k3
          have k19 : ai_hv t117 387 a = some (.inr (.inl m5)) := (e117 387 a (by first | decide | omega)).trans k6
          have s117 : px_S t117 (a + 1) f := ⟨g117, k117, (e117 383 8 (by first | decide | omega)).trans s0.2.2.1, by omega, s0.2.2.2.2⟩
          refine ex_go (S := (90, [(0, gx_r 383), (1, .inl lo), (2, .inl hi)], [gx_r 383], t117, n, 0)) rfl (fun _ => rfl) rfl ?_
          refine gx_ref (c := 387) rfl s117.1 rfl rfl rfl rfl ?_
          refine ex_go (S := (94, [(0, gx_r 383), (1, .inl lo), (2, .inl hi)], [gx_r 383, gx_r 387], t117, n, 0)) rfl (fun _ => rfl) rfl ?_
          refine gx_get rfl s117.1 rfl s117.2.1 rfl ?_
          refine ex_go (S := (98, [(0, gx_r 383), (1, .inl lo), (2, .inl hi)], [.inl 1, .inl (a + 1), gx_r 387], t117, n, 0)) rfl (fun _ => rfl) rfl ?_
          refine gx_isub rfl (by first | decide | omega) (by first | decide | omega) rfl ?_
          have kv20 : ai_hv t117 387 ((a + 1) - 1) = some (.inr (.inl m5)) := by rw [show (a + 1) - 1 = a by omega]; exact k19
          refine gx_ag (v := .inr (.inl m5)) (cb := fun c => Nat.beq c 3) rfl (fun _ => rfl) s117.1 rfl rfl kv20 (by first | decide | omega) rfl ?_
          refine ex_go (S := (101, [(0, gx_r 383), (1, .inl lo), (2, .inl hi)], [.inl ((lN m5).toInt32.toBitVec.toNat)], t117, n, 0)) rfl (fun _ => rfl) rfl ?_
          have z21l := gx_i2l (x := lo) (by first | decide | omega)
          have z21h := gx_i2l (x := hi) (by first | decide | omega)
          obtain ⟨z21a, z21b⟩ := gx_l2i (m := m5) (lo := lo) (hi := hi) (by first | decide | omega) (by first | decide | omega) (by first | decide | omega)
          generalize (lN m5).toInt32.toBitVec.toNat = z21 at z21a z21b ⊢
          refine ex_ret (r := (some (.inl z21), t117, n, 0)) rfl (fun _ => rfl) ?_
          exact ⟨_, rfl, z21, t117, a + 1, f, rfl, s117, (fun c i h => e117 c i (by first | decide | omega)), by omega⟩
      · refine ex_go (S := (50, [(0, gx_r 383), (1, .inl lo), (2, .inl hi)], [], t0, n, 0)) rfl (fun _ => rfl) rfl ?_
        refine ex_go (S := (51, [(0, gx_r 383), (1, .inl lo), (2, .inl hi)], [gx_r 383], t0, n, 0)) rfl (fun _ => rfl) rfl ?_
        refine gx_ref (c := 387) rfl s0.1 rfl rfl rfl rfl ?_
        refine ex_go (S := (55, [(0, gx_r 383), (1, .inl lo), (2, .inl hi)], [gx_r 383, gx_r 387], t0, n, 0)) rfl (fun _ => rfl) rfl ?_
        refine gx_get rfl s0.1 rfl s0.2.1 rfl ?_
        refine gx_ag (v := .inr (.inl m5)) (cb := fun c => Nat.beq c 3) rfl (fun _ => rfl) s0.1 rfl rfl k6 (by first | decide | omega) rfl ?_
        refine ex_go (S := (60, [(0, gx_r 383), (1, .inl lo), (2, .inl hi)], [.inl hi, .inr (.inl m5)], t0, n, 0)) rfl (fun _ => rfl) rfl ?_
        refine ex_go (S := (61, [(0, gx_r 383), (1, .inl lo), (2, .inl hi)], [.inr (.inl ((nI hi).toInt64.toBitVec.toNat)), .inr (.inl m5)], t0, n, 0)) rfl (fun _ => rfl) rfl ?_
        refine gx_lcmp rfl rfl (fun hl22 => ?_) (fun hl22 => ?_) (fun hl22 => ?_)
        · refine ex_go (S := (70, [(0, gx_r 383), (1, .inl lo), (2, .inl hi)], [], t0, n, 0)) rfl (fun _ => rfl) rfl ?_
          refine ex_go (S := (71, [(0, gx_r 383), (1, .inl lo), (2, .inl hi)], [gx_r 383], t0, n, 0)) rfl (fun _ => rfl) rfl ?_
          refine gx_get rfl s0.1 rfl s0.2.2.1 rfl ?_
          refine gx_1t (c := .le) rfl (by first | decide | omega) (show f ≤ 0 from by omega) rfl ?_
          refine ex_go (S := (80, [(0, gx_r 383), (1, .inl lo), (2, .inl hi)], [gx_r 383], t0, n, 0)) rfl (fun _ => rfl) rfl ?_
          refine ex_go (S := (81, [(0, gx_r 383), (1, .inl lo), (2, .inl hi)], [gx_r 383, gx_r 383], t0, n, 0)) rfl (fun _ => rfl) rfl ?_
          refine gx_get rfl s0.1 rfl s0.2.1 rfl ?_
          refine ex_go (S := (85, [(0, gx_r 383), (1, .inl lo), (2, .inl hi)], [.inl 1, .inl a, gx_r 383], t0, n, 0)) rfl (fun _ => rfl) rfl ?_
          refine ex_iadd rfl (by first | decide | omega) rfl ?_
          refine gx_put rfl s0.1 rfl rfl (ai_in_h (by first | decide | omega) (by first | decide | omega) (by first | decide | omega)) rfl (fun t123 g123 k123 e123 => ?_)
          have k24 : ai_hv t123 385 a = some (.inl m2) := (e123 385 a (by first | decide | omega)).trans k3
          have k25 : ai_hv t123 387 a = some (.inr (.inl m5)) := (e123 387 a (by first | decide | omega)).trans k6
          have s123 : px_S t123 (a + 1) f := ⟨g123, k123, (e123 383 8 (by first | decide | omega)).trans s0.2.2.1, by omega, s0.2.2.2.2⟩
          refine ex_go (S := (90, [(0, gx_r 383), (1, .inl lo), (2, .inl hi)], [gx_r 383], t123, n, 0)) rfl (fun _ => rfl) rfl ?_
          refine gx_ref (c := 387) rfl s123.1 rfl rfl rfl rfl ?_
          refine ex_go (S := (94, [(0, gx_r 383), (1, .inl lo), (2, .inl hi)], [gx_r 383, gx_r 387], t123, n, 0)) rfl (fun _ => rfl) rfl ?_
          refine gx_get rfl s123.1 rfl s123.2.1 rfl ?_
          refine ex_go (S := (98, [(0, gx_r 383), (1, .inl lo), (2, .inl hi)], [.inl 1, .inl (a + 1), gx_r 387], t123, n, 0)) rfl (fun _ => rfl) rfl ?_
          refine gx_isub rfl (by first | decide | omega) (by first | decide | omega) rfl ?_
          have kv26 : ai_hv t123 387 ((a + 1) - 1) = some (.inr (.inl m5)) := by rw [show (a + 1) - 1 = a by omega]; exact k25
          refine gx_ag (v := .inr (.inl m5)) (cb := fun c => Nat.beq c 3) rfl (fun _ => rfl) s123.1 rfl rfl kv26 (by first | decide | omega) rfl ?_
          refine ex_go (S := (101, [(0, gx_r 383), (1, .inl lo), (2, .inl hi)], [.inl ((lN m5).toInt32.toBitVec.toNat)], t123, n, 0)) rfl (fun _ => rfl) rfl ?_
          have z27l := gx_i2l (x := lo) (by first | decide | omega)
          have z27h := gx_i2l (x := hi) (by first | decide | omega)
          obtain ⟨z27a, z27b⟩ := gx_l2i (m := m5) (lo := lo) (hi := hi) (by first | decide | omega) (by first | decide | omega) (by first | decide | omega)
          generalize (lN m5).toInt32.toBitVec.toNat = z27 at z27a z27b ⊢
          refine ex_ret (r := (some (.inl z27), t123, n, 0)) rfl (fun _ => rfl) ?_
          exact ⟨_, rfl, z27, t123, a + 1, f, rfl, s123, (fun c i h => e123 c i (by first | decide | omega)), by omega⟩
        · refine ex_go (S := (65, [(0, gx_r 383), (1, .inl lo), (2, .inl hi)], [], t0, n, 0)) rfl (fun _ => rfl) rfl ?_
          refine ex_go (S := (66, [(0, gx_r 383), (1, .inl lo), (2, .inl hi)], [gx_r 383], t0, n, 0)) rfl (fun _ => rfl) rfl ?_
          refine ex_go (S := (67, [(0, gx_r 383), (1, .inl lo), (2, .inl hi)], [.inl 4, gx_r 383], t0, n, 0)) rfl (fun _ => rfl) rfl ?_
          obtain ⟨_, r128, t128, a128, f128, rfl, s128, e128, q128⟩ := pk_wrong d n (s0) (w := 4) (by first | decide | omega)
          have b128 := s128.2.2.2
          refine gx_call0 rfl rfl s0.1 rfl rfl r128 rfl ?_
          have k29 : ai_hv t128 385 a = some (.inl m2) := (e128 385 a (by first | decide | omega)).trans k3
          have k30 : ai_hv t128 387 a = some (.inr (.inl m5)) := (e128 387 a (by first | decide | omega)).trans k6
          refine ex_go (S := (71, [(0, gx_r 383), (1, .inl lo), (2, .inl hi)], [gx_r 383], t128, n, 0)) rfl (fun _ => rfl) rfl ?_
          refine gx_get rfl s128.1 rfl s128.2.2.1 rfl ?_
          refine gx_1f (c := .le) rfl (by first | decide | omega) (show ¬ (f128 ≤ 0) from by omega) rfl ?_
          refine ex_go (S := (78, [(0, gx_r 383), (1, .inl lo), (2, .inl hi)], [.inl 0], t128, n, 0)) rfl (fun _ => rfl) rfl ?_
          refine ex_ret (r := (some (.inl 0), t128, n, 0)) rfl (fun _ => rfl) ?_
          exact ⟨_, rfl, 0, t128, a128, f128, rfl, s128, (fun c i h => e128 c i (by first | decide | omega)), by omega⟩
        · refine ex_go (S := (70, [(0, gx_r 383), (1, .inl lo), (2, .inl hi)], [], t0, n, 0)) rfl (fun _ => rfl) rfl ?_
          refine ex_go (S := (71, [(0, gx_r 383), (1, .inl lo), (2, .inl hi)], [gx_r 383], t0, n, 0)) rfl (fun _ => rfl) rfl ?_
          refine gx_get rfl s0.1 rfl s0.2.2.1 rfl ?_
          refine gx_1t (c := .le) rfl (by first | decide | omega) (show f ≤ 0 from by omega) rfl ?_
          refine ex_go (S := (80, [(0, gx_r 383), (1, .inl lo), (2, .inl hi)], [gx_r 383], t0, n, 0)) rfl (fun _ => rfl) rfl ?_
          refine ex_go (S := (81, [(0, gx_r 383), (1, .inl lo), (2, .inl hi)], [gx_r 383, gx_r 383], t0, n, 0)) rfl (fun _ => rfl) rfl ?_
          refine gx_get rfl s0.1 rfl s0.2.1 rfl ?_
          refine ex_go (S := (85, [(0, gx_r 383), (1, .inl lo), (2, .inl hi)], [.inl 1, .inl a, gx_r 383], t0, n, 0)) rfl (fun _ => rfl) rfl ?_
          refine ex_iadd rfl (by first | decide | omega) rfl ?_
          refine gx_put rfl s0.1 rfl rfl (ai_in_h (by first | decide | omega) (by first | decide | omega) (by first | decide | omega)) rfl (fun t131 g131 k131 e131 => ?_)
          have k32 : ai_hv t131 385 a = some (.inl m2) := (e131 385 a (by first | decide | omega)).trans k3
          have k33 : ai_hv t131 387 a = some (.inr (.inl m5)) := (e131 387 a (by first | decide | omega)).trans k6
          have s131 : px_S t131 (a + 1) f := ⟨g131, k131, (e131 383 8 (by first | decide | omega)).trans s0.2.2.1, by omega, s0.2.2.2.2⟩
          refine ex_go (S := (90, [(0, gx_r 383), (1, .inl lo), (2, .inl hi)], [gx_r 383], t131, n, 0)) rfl (fun _ => rfl) rfl ?_
          refine gx_ref (c := 387) rfl s131.1 rfl rfl rfl rfl ?_
          refine ex_go (S := (94, [(0, gx_r 383), (1, .inl lo), (2, .inl hi)], [gx_r 383, gx_r 387], t131, n, 0)) rfl (fun _ => rfl) rfl ?_
          refine gx_get rfl s131.1 rfl s131.2.1 rfl ?_
          refine ex_go (S := (98, [(0, gx_r 383), (1, .inl lo), (2, .inl hi)], [.inl 1, .inl (a + 1), gx_r 387], t131, n, 0)) rfl (fun _ => rfl) rfl ?_
          refine gx_isub rfl (by first | decide | omega) (by first | decide | omega) rfl ?_
          have kv34 : ai_hv t131 387 ((a + 1) - 1) = some (.inr (.inl m5)) := by rw [show (a + 1) - 1 = a by omega]; exact k33
          refine gx_ag (v := .inr (.inl m5)) (cb := fun c => Nat.beq c 3) rfl (fun _ => rfl) s131.1 rfl rfl kv34 (by first | decide | omega) rfl ?_
          refine ex_go (S := (101, [(0, gx_r 383), (1, .inl lo), (2, .inl hi)], [.inl ((lN m5).toInt32.toBitVec.toNat)], t131, n, 0)) rfl (fun _ => rfl) rfl ?_
          have z35l := gx_i2l (x := lo) (by first | decide | omega)
          have z35h := gx_i2l (x := hi) (by first | decide | omega)
          obtain ⟨z35a, z35b⟩ := gx_l2i (m := m5) (lo := lo) (hi := hi) (by first | decide | omega) (by first | decide | omega) (by first | decide | omega)
          generalize (lN m5).toInt32.toBitVec.toNat = z35 at z35a z35b ⊢
          refine ex_ret (r := (some (.inl z35), t131, n, 0)) rfl (fun _ => rfl) ?_
          exact ⟨_, rfl, z35, t131, a + 1, f, rfl, s131, (fun c i h => e131 c i (by first | decide | omega)), by omega⟩
      · refine ex_go (S := (65, [(0, gx_r 383), (1, .inl lo), (2, .inl hi)], [], t0, n, 0)) rfl (fun _ => rfl) rfl ?_
        refine ex_go (S := (66, [(0, gx_r 383), (1, .inl lo), (2, .inl hi)], [gx_r 383], t0, n, 0)) rfl (fun _ => rfl) rfl ?_
        refine ex_go (S := (67, [(0, gx_r 383), (1, .inl lo), (2, .inl hi)], [.inl 4, gx_r 383], t0, n, 0)) rfl (fun _ => rfl) rfl ?_
        obtain ⟨_, r136, t136, a136, f136, rfl, s136, e136, q136⟩ := pk_wrong d n (s0) (w := 4) (by first | decide | omega)
        have b136 := s136.2.2.2
        refine gx_call0 rfl rfl s0.1 rfl rfl r136 rfl ?_
        have k37 : ai_hv t136 385 a = some (.inl m2) := (e136 385 a (by first | decide | omega)).trans k3
        have k38 : ai_hv t136 387 a = some (.inr (.inl m5)) := (e136 387 a (by first | decide | omega)).trans k6
        refine ex_go (S := (71, [(0, gx_r 383), (1, .inl lo), (2, .inl hi)], [gx_r 383], t136, n, 0)) rfl (fun _ => rfl) rfl ?_
        refine gx_get rfl s136.1 rfl s136.2.2.1 rfl ?_
        refine gx_1f (c := .le) rfl (by first | decide | omega) (show ¬ (f136 ≤ 0) from by omega) rfl ?_
        refine ex_go (S := (78, [(0, gx_r 383), (1, .inl lo), (2, .inl hi)], [.inl 0], t136, n, 0)) rfl (fun _ => rfl) rfl ?_
        refine ex_ret (r := (some (.inl 0), t136, n, 0)) rfl (fun _ => rfl) ?_
        exact ⟨_, rfl, 0, t136, a136, f136, rfl, s136, (fun c i h => e136 c i (by first | decide | omega)), by omega⟩
    · refine gx_2f (c := .eq) rfl (by first | decide | omega) (by first | decide | omega) hc4 rfl ?_
      refine ex_go (S := (21, [(0, gx_r 383), (1, .inl lo), (2, .inl hi)], [gx_r 383], t0, n, 0)) rfl (fun _ => rfl) rfl ?_
      refine ex_go (S := (22, [(0, gx_r 383), (1, .inl lo), (2, .inl hi)], [.inl 1, gx_r 383], t0, n, 0)) rfl (fun _ => rfl) rfl ?_
      obtain ⟨_, r139, t139, a139, f139, rfl, s139, e139, q139⟩ := pk_wrong d n (s0) (w := 1) (by first | decide | omega)
      have b139 := s139.2.2.2
      refine gx_call0 rfl rfl s0.1 rfl rfl r139 rfl ?_
      have k40 : ai_hv t139 385 a = some (.inl m2) := (e139 385 a (by first | decide | omega)).trans k3
      refine ex_go (S := (70, [(0, gx_r 383), (1, .inl lo), (2, .inl hi)], [], t139, n, 0)) rfl (fun _ => rfl) rfl ?_
      refine ex_go (S := (71, [(0, gx_r 383), (1, .inl lo), (2, .inl hi)], [gx_r 383], t139, n, 0)) rfl (fun _ => rfl) rfl ?_
      refine gx_get rfl s139.1 rfl s139.2.2.1 rfl ?_
      refine gx_1f (c := .le) rfl (by first | decide | omega) (show ¬ (f139 ≤ 0) from by omega) rfl ?_
      refine ex_go (S := (78, [(0, gx_r 383), (1, .inl lo), (2, .inl hi)], [.inl 0], t139, n, 0)) rfl (fun _ => rfl) rfl ?_
      refine ex_ret (r := (some (.inl 0), t139, n, 0)) rfl (fun _ => rfl) ?_
      exact ⟨_, rfl, 0, t139, a139, f139, rfl, s139, (fun c i h => e139 c i (by first | decide | omega)), by omega⟩
theorem pk_takeAfter (d n : Nat) {t0 : en_H} {a f w lo hi : Nat} (s0 : px_S t0 a f) (hw : w < 42) (h1 : lo < 2147483648) (h2 : f = 0 → hi < 2147483648) : ∃ r, en_u (d + 4) 244 [gx_r 383, .inl w, .inl lo, .inl hi] t0 n = some r ∧ ∃ v t' a' f', r = (some (.inl v), t', n, 0) ∧ px_S t' a' f' ∧ px_F t0 t' ∧ (a ≤ a' ∧ a' ≤ a + 2 ∧ (f ≠ 0 → f' = f ∧ a' = a) ∧ (f' = 0 → f = 0 ∧ a' = a + 2 ∧ lo ≤ v ∧ v ≤ hi) ∧ (f' ≠ 0 → v = 0)) := by
  have b0 := s0.2.2.2
  refine en_u_ex (d := d + 3) rfl ?_
  show en_ex _ _ _ _ (0, [(0, gx_r 383), (1, .inl w), (2, .inl lo), (3, .inl hi)], [], t0, n, 0) _
  refine ex_go (S := (1, [(0, gx_r 383), (1, .inl w), (2, .inl lo), (3, .inl hi)], [gx_r 383], t0, n, 0)) rfl (fun _ => rfl) rfl ?_
  refine ex_go (S := (2, [(0, gx_r 383), (1, .inl w), (2, .inl lo), (3, .inl hi)], [.inl w, gx_r 383], t0, n, 0)) rfl (fun _ => rfl) rfl ?_
  obtain ⟨_, r101, t101, a101, f101, rfl, s101, e101, q101⟩ := pk_takeWord d n (s0) (w := w) (by first | decide | omega)
  have b101 := s101.2.2.2
  refine gx_call0 rfl rfl s0.1 rfl rfl r101 rfl ?_
  refine ex_go (S := (6, [(0, gx_r 383), (1, .inl w), (2, .inl lo), (3, .inl hi)], [gx_r 383], t101, n, 0)) rfl (fun _ => rfl) rfl ?_
  refine ex_go (S := (7, [(0, gx_r 383), (1, .inl w), (2, .inl lo), (3, .inl hi)], [.inl lo, gx_r 383], t101, n, 0)) rfl (fun _ => rfl) rfl ?_
  refine ex_go (S := (8, [(0, gx_r 383), (1, .inl w), (2, .inl lo), (3, .inl hi)], [.inl hi, .inl lo, gx_r 383], t101, n, 0)) rfl (fun _ => rfl) rfl ?_
  obtain ⟨_, r102, v102, t102, a102, f102, rfl, s102, e102, q102⟩ := pk_takeNumber (d + 1) n (s101) (lo := lo) (hi := hi) (by first | decide | omega) (by first | decide | omega)
  have b102 := s102.2.2.2
  refine gx_call1 rfl rfl s101.1 rfl rfl r102 rfl ?_
  refine ex_ret (r := (some (.inl v102), t102, n, 0)) rfl (fun _ => rfl) ?_
  exact ⟨_, rfl, v102, t102, a102, f102, rfl, s102, (fun c i h => (e102 c i (by first | decide | omega)).trans (e101 c i (by first | decide | omega))), by omega⟩
theorem pk_wordHere_l (d n : Nat) {t0 : en_H} {a f w m : Nat} (s0 : px_S t0 a f) (hw : w + m ≤ 42) : ∀ j k b, k + j = m → ((b < m ∧ f = 0 ∧ a ≤ 999) ∨ b = 4294967295) → en_ex none (en_u (d + 1)) (en_code 100) (fun _ => false) (5, [(4, .inl k), (3, .inl b), (0, gx_r 383), (1, .inl w), (2, .inl m)], [], t0, n, 0) (fun o => ∃ r, o = .inl r ∧ ∃ b, r = (some (.inl b), t0, n, 0) ∧ ((b < m ∧ f = 0 ∧ a ≤ 999) ∨ b = 4294967295)) := by
  have b0 := s0.2.2.2
  intro j
  induction j with
  | zero =>
    intro k b hk hb
    refine ex_go (S := (7, [(4, .inl k), (3, .inl b), (0, gx_r 383), (1, .inl w), (2, .inl m)], [.inl k], t0, n, 0)) rfl (fun _ => rfl) rfl ?_
    refine ex_go (S := (8, [(4, .inl k), (3, .inl b), (0, gx_r 383), (1, .inl w), (2, .inl m)], [.inl m, .inl k], t0, n, 0)) rfl (fun _ => rfl) rfl ?_
    refine gx_2t (c := .ge) rfl (by first | decide | omega) (by first | decide | omega) (show m ≤ k from by omega) rfl ?_
    refine ex_go (S := (36, [(4, .inl k), (3, .inl b), (0, gx_r 383), (1, .inl w), (2, .inl m)], [.inl b], t0, n, 0)) rfl (fun _ => rfl) rfl ?_
    refine ex_ret (r := (some (.inl b), t0, n, 0)) rfl (fun _ => rfl) ?_
    exact ⟨_, rfl, b, rfl, by omega⟩
  | succ j ih =>
    intro k b hk hb
    refine ex_go (S := (7, [(4, .inl k), (3, .inl b), (0, gx_r 383), (1, .inl w), (2, .inl m)], [.inl k], t0, n, 0)) rfl (fun _ => rfl) rfl ?_
    refine ex_go (S := (8, [(4, .inl k), (3, .inl b), (0, gx_r 383), (1, .inl w), (2, .inl m)], [.inl m, .inl k], t0, n, 0)) rfl (fun _ => rfl) rfl ?_
    refine gx_2f (c := .ge) rfl (by first | decide | omega) (by first | decide | omega) (show ¬ (m ≤ k) from by omega) rfl ?_
    refine ex_go (S := (12, [(4, .inl k), (3, .inl b), (0, gx_r 383), (1, .inl w), (2, .inl m)], [gx_r 383], t0, n, 0)) rfl (fun _ => rfl) rfl ?_
    refine ex_go (S := (13, [(4, .inl k), (3, .inl b), (0, gx_r 383), (1, .inl w), (2, .inl m)], [.inl w, gx_r 383], t0, n, 0)) rfl (fun _ => rfl) rfl ?_
    refine ex_go (S := (15, [(4, .inl k), (3, .inl b), (0, gx_r 383), (1, .inl w), (2, .inl m)], [.inl k, .inl w, gx_r 383], t0, n, 0)) rfl (fun _ => rfl) rfl ?_
    refine ex_iadd rfl (by first | decide | omega) rfl ?_
    obtain ⟨_, r3, b1, rfl, q2⟩ := pk_isWord d n (s0) (w := w + k) (by first | decide | omega)
    refine gx_call1 rfl rfl s0.1 rfl rfl r3 rfl ?_
    by_cases hc4 : b1 = 0
    · refine gx_1t (c := .eq) rfl (by first | decide | omega) hc4 rfl ?_
      refine ex_go (S := (28, [(4, .inl k), (3, .inl b), (0, gx_r 383), (1, .inl w), (2, .inl m)], [.inl b], t0, n, 0)) rfl (fun _ => rfl) rfl ?_
      refine ex_go (S := (29, [(3, .inl b), (4, .inl k), (0, gx_r 383), (1, .inl w), (2, .inl m)], [], t0, n, 0)) rfl (fun _ => rfl) rfl ?_
      refine gx_iinc (i := 4) (k := 1) rfl (fun _ => rfl) (by first | decide | omega) rfl ?_
      show en_ex _ _ _ _ (32, [(4, .inl (k + 1)), (3, .inl b), (0, gx_r 383), (1, .inl w), (2, .inl m)], [], t0, n, 0) _
      refine ex_go (S := (5, [(4, .inl (k + 1)), (3, .inl b), (0, gx_r 383), (1, .inl w), (2, .inl m)], [], t0, n, 0)) rfl (fun _ => rfl) rfl ?_
      exact ih (k + 1) b (by first | decide | omega) (by first | decide | omega)
    · refine gx_1f (c := .eq) rfl (by first | decide | omega) hc4 rfl ?_
      refine ex_go (S := (24, [(4, .inl k), (3, .inl b), (0, gx_r 383), (1, .inl w), (2, .inl m)], [.inl k], t0, n, 0)) rfl (fun _ => rfl) rfl ?_
      refine ex_go (S := (28, [(4, .inl k), (3, .inl b), (0, gx_r 383), (1, .inl w), (2, .inl m)], [.inl k], t0, n, 0)) rfl (fun _ => rfl) rfl ?_
      refine ex_go (S := (29, [(3, .inl k), (4, .inl k), (0, gx_r 383), (1, .inl w), (2, .inl m)], [], t0, n, 0)) rfl (fun _ => rfl) rfl ?_
      refine gx_iinc (i := 4) (k := 1) rfl (fun _ => rfl) (by first | decide | omega) rfl ?_
      show en_ex _ _ _ _ (32, [(4, .inl (k + 1)), (3, .inl k), (0, gx_r 383), (1, .inl w), (2, .inl m)], [], t0, n, 0) _
      refine ex_go (S := (5, [(4, .inl (k + 1)), (3, .inl k), (0, gx_r 383), (1, .inl w), (2, .inl m)], [], t0, n, 0)) rfl (fun _ => rfl) rfl ?_
      exact ih (k + 1) k (by first | decide | omega) (by first | decide | omega)
theorem pk_wordHere (d n : Nat) {t0 : en_H} {a f w m : Nat} (s0 : px_S t0 a f) (hw : w + m ≤ 42) : ∃ r, en_u (d + 2) 100 [gx_r 383, .inl w, .inl m] t0 n = some r ∧ ∃ b, r = (some (.inl b), t0, n, 0) ∧ ((b < m ∧ f = 0 ∧ a ≤ 999) ∨ b = 4294967295) := by
  have b0 := s0.2.2.2
  refine en_u_ex (d := d + 1) rfl ?_
  show en_ex _ _ _ _ (0, [(0, gx_r 383), (1, .inl w), (2, .inl m)], [], t0, n, 0) _
  refine ex_go (S := (1, [(0, gx_r 383), (1, .inl w), (2, .inl m)], [.inl 4294967295], t0, n, 0)) rfl (fun _ => rfl) rfl ?_
  refine ex_go (S := (2, [(3, .inl 4294967295), (0, gx_r 383), (1, .inl w), (2, .inl m)], [], t0, n, 0)) rfl (fun _ => rfl) rfl ?_
  refine ex_go (S := (3, [(3, .inl 4294967295), (0, gx_r 383), (1, .inl w), (2, .inl m)], [.inl 0], t0, n, 0)) rfl (fun _ => rfl) rfl ?_
  refine ex_go (S := (5, [(4, .inl 0), (3, .inl 4294967295), (0, gx_r 383), (1, .inl w), (2, .inl m)], [], t0, n, 0)) rfl (fun _ => rfl) rfl ?_
  exact pk_wordHere_l d n s0 hw m 0 _ (by first | decide | omega) (by first | decide | omega)
theorem pk_takeOne (d n : Nat) {t0 : en_H} {a f w m : Nat} (s0 : px_S t0 a f) (hw : w + m ≤ 42) (hm : 1 ≤ m) : ∃ r, en_u (d + 3) 241 [gx_r 383, .inl w, .inl m] t0 n = some r ∧ ∃ v t' a' f', r = (some (.inl v), t', n, 0) ∧ px_S t' a' f' ∧ px_F t0 t' ∧ (a ≤ a' ∧ a' ≤ a + 1 ∧ (f ≠ 0 → f' = f ∧ a' = a) ∧ (f' = 0 → f = 0 ∧ a' = a + 1) ∧ v < m ∧ (f' ≠ 0 → v = 0)) := by
  have b0 := s0.2.2.2
  refine en_u_ex (d := d + 2) rfl ?_
  show en_ex _ _ _ _ (0, [(0, gx_r 383), (1, .inl w), (2, .inl m)], [], t0, n, 0) _
  refine ex_go (S := (1, [(0, gx_r 383), (1, .inl w), (2, .inl m)], [gx_r 383], t0, n, 0)) rfl (fun _ => rfl) rfl ?_
  refine gx_get rfl s0.1 rfl s0.2.2.1 rfl ?_
  by_cases hc1 : f ≤ 0
  · refine gx_1t (c := .le) rfl (by first | decide | omega) hc1 rfl ?_
    refine ex_go (S := (12, [(0, gx_r 383), (1, .inl w), (2, .inl m)], [gx_r 383], t0, n, 0)) rfl (fun _ => rfl) rfl ?_
    refine ex_go (S := (13, [(0, gx_r 383), (1, .inl w), (2, .inl m)], [.inl w, gx_r 383], t0, n, 0)) rfl (fun _ => rfl) rfl ?_
    refine ex_go (S := (14, [(0, gx_r 383), (1, .inl w), (2, .inl m)], [.inl m, .inl w, gx_r 383], t0, n, 0)) rfl (fun _ => rfl) rfl ?_
    obtain ⟨_, r4, b2, rfl, q3⟩ := pk_wordHere d n (s0) (w := w) (m := m) (by first | decide | omega)
    refine gx_call1 rfl rfl s0.1 rfl rfl r4 rfl ?_
    rcases q3 with hn5 | hn5
    · have := hn5
      refine ex_go (S := (18, [(3, .inl b2), (0, gx_r 383), (1, .inl w), (2, .inl m)], [], t0, n, 0)) rfl (fun _ => rfl) rfl ?_
      refine ex_go (S := (19, [(3, .inl b2), (0, gx_r 383), (1, .inl w), (2, .inl m)], [gx_r 383], t0, n, 0)) rfl (fun _ => rfl) rfl ?_
      refine gx_get rfl s0.1 rfl s0.2.2.1 rfl ?_
      refine gx_1f (c := .ne) rfl (by first | decide | omega) (show ¬ (f ≠ 0) from by omega) rfl ?_
      refine ex_go (S := (26, [(3, .inl b2), (0, gx_r 383), (1, .inl w), (2, .inl m)], [.inl b2], t0, n, 0)) rfl (fun _ => rfl) rfl ?_
      by_cases hc6 : 0 ≤ b2
      · refine gx_1t (c := .ge) rfl (by first | decide | omega) hc6 rfl ?_
        refine ex_go (S := (35, [(3, .inl b2), (0, gx_r 383), (1, .inl w), (2, .inl m)], [gx_r 383], t0, n, 0)) rfl (fun _ => rfl) rfl ?_
        refine ex_go (S := (36, [(3, .inl b2), (0, gx_r 383), (1, .inl w), (2, .inl m)], [gx_r 383, gx_r 383], t0, n, 0)) rfl (fun _ => rfl) rfl ?_
        refine gx_get rfl s0.1 rfl s0.2.1 rfl ?_
        refine ex_go (S := (40, [(3, .inl b2), (0, gx_r 383), (1, .inl w), (2, .inl m)], [gx_r 383, .inl a, gx_r 383], t0, n, 0)) rfl (fun _ => rfl) rfl ?_
        refine gx_get rfl s0.1 rfl s0.2.2.1 rfl ?_
        refine gx_1t (c := .le) rfl (by first | decide | omega) (show f ≤ 0 from by omega) rfl ?_
        refine ex_go (S := (51, [(3, .inl b2), (0, gx_r 383), (1, .inl w), (2, .inl m)], [.inl 1, .inl a, gx_r 383], t0, n, 0)) rfl (fun _ => rfl) rfl ?_
        refine ex_iadd rfl (by first | decide | omega) rfl ?_
        refine gx_put rfl s0.1 rfl rfl (ai_in_h (by first | decide | omega) (by first | decide | omega) (by first | decide | omega)) rfl (fun t107 g107 k107 e107 => ?_)
        have s107 : px_S t107 (a + 1) f := ⟨g107, k107, (e107 383 8 (by first | decide | omega)).trans s0.2.2.1, by omega, s0.2.2.2.2⟩
        refine ex_go (S := (56, [(3, .inl b2), (0, gx_r 383), (1, .inl w), (2, .inl m)], [gx_r 383], t107, n, 0)) rfl (fun _ => rfl) rfl ?_
        refine gx_get rfl s107.1 rfl s107.2.2.1 rfl ?_
        refine gx_1t (c := .le) rfl (by first | decide | omega) (show f ≤ 0 from by omega) rfl ?_
        refine ex_go (S := (67, [(3, .inl b2), (0, gx_r 383), (1, .inl w), (2, .inl m)], [.inl b2], t107, n, 0)) rfl (fun _ => rfl) rfl ?_
        refine ex_ret (r := (some (.inl b2), t107, n, 0)) rfl (fun _ => rfl) ?_
        exact ⟨_, rfl, b2, t107, a + 1, f, rfl, s107, (fun c i h => e107 c i (by first | decide | omega)), by omega⟩
      · refine gx_1f (c := .ge) rfl (by first | decide | omega) hc6 rfl ?_
        refine ex_go (S := (30, [(3, .inl b2), (0, gx_r 383), (1, .inl w), (2, .inl m)], [gx_r 383], t0, n, 0)) rfl (fun _ => rfl) rfl ?_
        refine ex_go (S := (31, [(3, .inl b2), (0, gx_r 383), (1, .inl w), (2, .inl m)], [.inl 1, gx_r 383], t0, n, 0)) rfl (fun _ => rfl) rfl ?_
        obtain ⟨_, r108, t108, a108, f108, rfl, s108, e108, q108⟩ := pk_wrong (d + 1) n (s0) (w := 1) (by first | decide | omega)
        have b108 := s108.2.2.2
        refine gx_call0 rfl rfl s0.1 rfl rfl r108 rfl ?_
        refine ex_go (S := (35, [(3, .inl b2), (0, gx_r 383), (1, .inl w), (2, .inl m)], [gx_r 383], t108, n, 0)) rfl (fun _ => rfl) rfl ?_
        refine ex_go (S := (36, [(3, .inl b2), (0, gx_r 383), (1, .inl w), (2, .inl m)], [gx_r 383, gx_r 383], t108, n, 0)) rfl (fun _ => rfl) rfl ?_
        refine gx_get rfl s108.1 rfl s108.2.1 rfl ?_
        refine ex_go (S := (40, [(3, .inl b2), (0, gx_r 383), (1, .inl w), (2, .inl m)], [gx_r 383, .inl a108, gx_r 383], t108, n, 0)) rfl (fun _ => rfl) rfl ?_
        refine gx_get rfl s108.1 rfl s108.2.2.1 rfl ?_
        refine gx_1f (c := .le) rfl (by first | decide | omega) (show ¬ (f108 ≤ 0) from by omega) rfl ?_
        refine ex_go (S := (47, [(3, .inl b2), (0, gx_r 383), (1, .inl w), (2, .inl m)], [.inl 0, .inl a108, gx_r 383], t108, n, 0)) rfl (fun _ => rfl) rfl ?_
        refine ex_go (S := (51, [(3, .inl b2), (0, gx_r 383), (1, .inl w), (2, .inl m)], [.inl 0, .inl a108, gx_r 383], t108, n, 0)) rfl (fun _ => rfl) rfl ?_
        refine ex_iadd rfl (by first | decide | omega) rfl ?_
        refine gx_put rfl s108.1 rfl rfl (ai_in_h (by first | decide | omega) (by first | decide | omega) (by first | decide | omega)) rfl (fun t109 g109 k109 e109 => ?_)
        have s109 : px_S t109 (a108 + 0) f108 := ⟨g109, k109, (e109 383 8 (by first | decide | omega)).trans s108.2.2.1, by omega, s108.2.2.2.2⟩
        refine ex_go (S := (56, [(3, .inl b2), (0, gx_r 383), (1, .inl w), (2, .inl m)], [gx_r 383], t109, n, 0)) rfl (fun _ => rfl) rfl ?_
        refine gx_get rfl s109.1 rfl s109.2.2.1 rfl ?_
        refine gx_1f (c := .le) rfl (by first | decide | omega) (show ¬ (f108 ≤ 0) from by omega) rfl ?_
        refine ex_go (S := (63, [(3, .inl b2), (0, gx_r 383), (1, .inl w), (2, .inl m)], [.inl 0], t109, n, 0)) rfl (fun _ => rfl) rfl ?_
        refine ex_go (S := (67, [(3, .inl b2), (0, gx_r 383), (1, .inl w), (2, .inl m)], [.inl 0], t109, n, 0)) rfl (fun _ => rfl) rfl ?_
        refine ex_ret (r := (some (.inl 0), t109, n, 0)) rfl (fun _ => rfl) ?_
        exact ⟨_, rfl, 0, t109, a108 + 0, f108, rfl, s109, (fun c i h => (e109 c i (by first | decide | omega)).trans (e108 c i (by first | decide | omega))), by omega⟩
    · subst hn5
      refine ex_go (S := (18, [(3, .inl 4294967295), (0, gx_r 383), (1, .inl w), (2, .inl m)], [], t0, n, 0)) rfl (fun _ => rfl) rfl ?_
      refine ex_go (S := (19, [(3, .inl 4294967295), (0, gx_r 383), (1, .inl w), (2, .inl m)], [gx_r 383], t0, n, 0)) rfl (fun _ => rfl) rfl ?_
      refine gx_get rfl s0.1 rfl s0.2.2.1 rfl ?_
      refine gx_1f (c := .ne) rfl (by first | decide | omega) (show ¬ (f ≠ 0) from by omega) rfl ?_
      refine ex_go (S := (26, [(3, .inl 4294967295), (0, gx_r 383), (1, .inl w), (2, .inl m)], [.inl 4294967295], t0, n, 0)) rfl (fun _ => rfl) rfl ?_
      refine ex_go (S := (29, [(3, .inl 4294967295), (0, gx_r 383), (1, .inl w), (2, .inl m)], [], t0, n, 0)) rfl (fun _ => rfl) rfl ?_
      refine ex_go (S := (30, [(3, .inl 4294967295), (0, gx_r 383), (1, .inl w), (2, .inl m)], [gx_r 383], t0, n, 0)) rfl (fun _ => rfl) rfl ?_
      refine ex_go (S := (31, [(3, .inl 4294967295), (0, gx_r 383), (1, .inl w), (2, .inl m)], [.inl 1, gx_r 383], t0, n, 0)) rfl (fun _ => rfl) rfl ?_
      obtain ⟨_, r110, t110, a110, f110, rfl, s110, e110, q110⟩ := pk_wrong (d + 1) n (s0) (w := 1) (by first | decide | omega)
      have b110 := s110.2.2.2
      refine gx_call0 rfl rfl s0.1 rfl rfl r110 rfl ?_
      refine ex_go (S := (35, [(3, .inl 4294967295), (0, gx_r 383), (1, .inl w), (2, .inl m)], [gx_r 383], t110, n, 0)) rfl (fun _ => rfl) rfl ?_
      refine ex_go (S := (36, [(3, .inl 4294967295), (0, gx_r 383), (1, .inl w), (2, .inl m)], [gx_r 383, gx_r 383], t110, n, 0)) rfl (fun _ => rfl) rfl ?_
      refine gx_get rfl s110.1 rfl s110.2.1 rfl ?_
      refine ex_go (S := (40, [(3, .inl 4294967295), (0, gx_r 383), (1, .inl w), (2, .inl m)], [gx_r 383, .inl a110, gx_r 383], t110, n, 0)) rfl (fun _ => rfl) rfl ?_
      refine gx_get rfl s110.1 rfl s110.2.2.1 rfl ?_
      refine gx_1f (c := .le) rfl (by first | decide | omega) (show ¬ (f110 ≤ 0) from by omega) rfl ?_
      refine ex_go (S := (47, [(3, .inl 4294967295), (0, gx_r 383), (1, .inl w), (2, .inl m)], [.inl 0, .inl a110, gx_r 383], t110, n, 0)) rfl (fun _ => rfl) rfl ?_
      refine ex_go (S := (51, [(3, .inl 4294967295), (0, gx_r 383), (1, .inl w), (2, .inl m)], [.inl 0, .inl a110, gx_r 383], t110, n, 0)) rfl (fun _ => rfl) rfl ?_
      refine ex_iadd rfl (by first | decide | omega) rfl ?_
      refine gx_put rfl s110.1 rfl rfl (ai_in_h (by first | decide | omega) (by first | decide | omega) (by first | decide | omega)) rfl (fun t111 g111 k111 e111 => ?_)
      have s111 : px_S t111 (a110 + 0) f110 := ⟨g111, k111, (e111 383 8 (by first | decide | omega)).trans s110.2.2.1, by omega, s110.2.2.2.2⟩
      refine ex_go (S := (56, [(3, .inl 4294967295), (0, gx_r 383), (1, .inl w), (2, .inl m)], [gx_r 383], t111, n, 0)) rfl (fun _ => rfl) rfl ?_
      refine gx_get rfl s111.1 rfl s111.2.2.1 rfl ?_
      refine gx_1f (c := .le) rfl (by first | decide | omega) (show ¬ (f110 ≤ 0) from by omega) rfl ?_
      refine ex_go (S := (63, [(3, .inl 4294967295), (0, gx_r 383), (1, .inl w), (2, .inl m)], [.inl 0], t111, n, 0)) rfl (fun _ => rfl) rfl ?_
      refine ex_go (S := (67, [(3, .inl 4294967295), (0, gx_r 383), (1, .inl w), (2, .inl m)], [.inl 0], t111, n, 0)) rfl (fun _ => rfl) rfl ?_
      refine ex_ret (r := (some (.inl 0), t111, n, 0)) rfl (fun _ => rfl) ?_
      exact ⟨_, rfl, 0, t111, a110 + 0, f110, rfl, s111, (fun c i h => (e111 c i (by first | decide | omega)).trans (e110 c i (by first | decide | omega))), by omega⟩
  · refine gx_1f (c := .le) rfl (by first | decide | omega) hc1 rfl ?_
    refine ex_go (S := (8, [(0, gx_r 383), (1, .inl w), (2, .inl m)], [.inl 4294967295], t0, n, 0)) rfl (fun _ => rfl) rfl ?_
    refine ex_go (S := (17, [(0, gx_r 383), (1, .inl w), (2, .inl m)], [.inl 4294967295], t0, n, 0)) rfl (fun _ => rfl) rfl ?_
    refine ex_go (S := (18, [(3, .inl 4294967295), (0, gx_r 383), (1, .inl w), (2, .inl m)], [], t0, n, 0)) rfl (fun _ => rfl) rfl ?_
    refine ex_go (S := (19, [(3, .inl 4294967295), (0, gx_r 383), (1, .inl w), (2, .inl m)], [gx_r 383], t0, n, 0)) rfl (fun _ => rfl) rfl ?_
    refine gx_get rfl s0.1 rfl s0.2.2.1 rfl ?_
    refine gx_1t (c := .ne) rfl (by first | decide | omega) (show f ≠ 0 from by omega) rfl ?_
    refine ex_go (S := (35, [(3, .inl 4294967295), (0, gx_r 383), (1, .inl w), (2, .inl m)], [gx_r 383], t0, n, 0)) rfl (fun _ => rfl) rfl ?_
    refine ex_go (S := (36, [(3, .inl 4294967295), (0, gx_r 383), (1, .inl w), (2, .inl m)], [gx_r 383, gx_r 383], t0, n, 0)) rfl (fun _ => rfl) rfl ?_
    refine gx_get rfl s0.1 rfl s0.2.1 rfl ?_
    refine ex_go (S := (40, [(3, .inl 4294967295), (0, gx_r 383), (1, .inl w), (2, .inl m)], [gx_r 383, .inl a, gx_r 383], t0, n, 0)) rfl (fun _ => rfl) rfl ?_
    refine gx_get rfl s0.1 rfl s0.2.2.1 rfl ?_
    refine gx_1f (c := .le) rfl (by first | decide | omega) (show ¬ (f ≤ 0) from by omega) rfl ?_
    refine ex_go (S := (47, [(3, .inl 4294967295), (0, gx_r 383), (1, .inl w), (2, .inl m)], [.inl 0, .inl a, gx_r 383], t0, n, 0)) rfl (fun _ => rfl) rfl ?_
    refine ex_go (S := (51, [(3, .inl 4294967295), (0, gx_r 383), (1, .inl w), (2, .inl m)], [.inl 0, .inl a, gx_r 383], t0, n, 0)) rfl (fun _ => rfl) rfl ?_
    refine ex_iadd rfl (by first | decide | omega) rfl ?_
    refine gx_put rfl s0.1 rfl rfl (ai_in_h (by first | decide | omega) (by first | decide | omega) (by first | decide | omega)) rfl (fun t112 g112 k112 e112 => ?_)
    have s112 : px_S t112 (a + 0) f := ⟨g112, k112, (e112 383 8 (by first | decide | omega)).trans s0.2.2.1, by omega, s0.2.2.2.2⟩
    refine ex_go (S := (56, [(3, .inl 4294967295), (0, gx_r 383), (1, .inl w), (2, .inl m)], [gx_r 383], t112, n, 0)) rfl (fun _ => rfl) rfl ?_
    refine gx_get rfl s112.1 rfl s112.2.2.1 rfl ?_
    refine gx_1f (c := .le) rfl (by first | decide | omega) (show ¬ (f ≤ 0) from by omega) rfl ?_
    refine ex_go (S := (63, [(3, .inl 4294967295), (0, gx_r 383), (1, .inl w), (2, .inl m)], [.inl 0], t112, n, 0)) rfl (fun _ => rfl) rfl ?_
    refine ex_go (S := (67, [(3, .inl 4294967295), (0, gx_r 383), (1, .inl w), (2, .inl m)], [.inl 0], t112, n, 0)) rfl (fun _ => rfl) rfl ?_
    refine ex_ret (r := (some (.inl 0), t112, n, 0)) rfl (fun _ => rfl) ?_
    exact ⟨_, rfl, 0, t112, a + 0, f, rfl, s112, (fun c i h => e112 c i (by first | decide | omega)), by omega⟩
theorem pk_isName (d n : Nat) {t0 : en_H} {a f : Nat} (s0 : px_S t0 a f) : ∃ r, en_u (d + 3) 245 [gx_r 383] t0 n = some r ∧ ∃ b, r = (some (.inl b), t0, n, 0) ∧ (b ≤ 1 ∧ (b = 1 → f = 0 ∧ a ≤ 999)) := by
  have b0 := s0.2.2.2
  refine en_u_ex (d := d + 2) rfl ?_
  show en_ex _ _ _ _ (0, [(0, gx_r 383)], [], t0, n, 0) _
  refine ex_go (S := (1, [(0, gx_r 383)], [gx_r 383], t0, n, 0)) rfl (fun _ => rfl) rfl ?_
  refine gx_get rfl s0.1 rfl s0.2.2.1 rfl ?_
  by_cases hc1 : f ≠ 0
  · refine gx_1t (c := .ne) rfl (by first | decide | omega) hc1 rfl ?_
    refine ex_go (S := (35, [(0, gx_r 383)], [.inl 0], t0, n, 0)) rfl (fun _ => rfl) rfl ?_
    refine ex_ret (r := (some (.inl 0), t0, n, 0)) rfl (fun _ => rfl) ?_
    exact ⟨_, rfl, 0, rfl, by omega⟩
  · refine gx_1f (c := .ne) rfl (by first | decide | omega) hc1 rfl ?_
    refine ex_go (S := (8, [(0, gx_r 383)], [gx_r 383], t0, n, 0)) rfl (fun _ => rfl) rfl ?_
    refine gx_ref (c := 385) rfl s0.1 rfl rfl rfl rfl ?_
    refine ex_go (S := (12, [(0, gx_r 383)], [gx_r 383, gx_r 385], t0, n, 0)) rfl (fun _ => rfl) rfl ?_
    refine gx_get rfl s0.1 rfl s0.2.1 rfl ?_
    obtain ⟨m2, k3, m2b⟩ := gx_sort s0.1 (i := a) (by first | decide | omega)
    refine gx_ag (v := .inl m2) (cb := fun c => Nat.beq c 0) rfl (fun _ => rfl) s0.1 rfl rfl k3 (by first | decide | omega) rfl ?_
    refine ex_go (S := (17, [(0, gx_r 383)], [.inl 1, .inl m2], t0, n, 0)) rfl (fun _ => rfl) rfl ?_
    by_cases hc4 : m2 ≠ 1
    · refine gx_2t (c := .ne) rfl (by first | decide | omega) (by first | decide | omega) hc4 rfl ?_
      refine ex_go (S := (35, [(0, gx_r 383)], [.inl 0], t0, n, 0)) rfl (fun _ => rfl) rfl ?_
      refine ex_ret (r := (some (.inl 0), t0, n, 0)) rfl (fun _ => rfl) ?_
      exact ⟨_, rfl, 0, rfl, by omega⟩
    · refine gx_2f (c := .ne) rfl (by first | decide | omega) (by first | decide | omega) hc4 rfl ?_
      refine ex_go (S := (21, [(0, gx_r 383)], [gx_r 383], t0, n, 0)) rfl (fun _ => rfl) rfl ?_
      refine ex_go (S := (22, [(0, gx_r 383)], [.inl 0, gx_r 383], t0, n, 0)) rfl (fun _ => rfl) rfl ?_
      refine ex_go (S := (24, [(0, gx_r 383)], [.inl 38, .inl 0, gx_r 383], t0, n, 0)) rfl (fun _ => rfl) rfl ?_
      obtain ⟨_, r7, b5, rfl, q6⟩ := pk_wordHere d n (s0) (w := 0) (m := 38) (by first | decide | omega)
      refine gx_call1 rfl rfl s0.1 rfl rfl r7 rfl ?_
      rcases q6 with hn8 | hn8
      · have := hn8
        refine gx_1t (c := .ge) rfl (by first | decide | omega) (show 0 ≤ b5 from by omega) rfl ?_
        refine ex_go (S := (35, [(0, gx_r 383)], [.inl 0], t0, n, 0)) rfl (fun _ => rfl) rfl ?_
        refine ex_ret (r := (some (.inl 0), t0, n, 0)) rfl (fun _ => rfl) ?_
        exact ⟨_, rfl, 0, rfl, by omega⟩
      · subst hn8
        refine ex_go (S := (30, [(0, gx_r 383)], [], t0, n, 0)) rfl (fun _ => rfl) rfl ?_
        refine ex_go (S := (31, [(0, gx_r 383)], [.inl 1], t0, n, 0)) rfl (fun _ => rfl) rfl ?_
        refine ex_go (S := (35, [(0, gx_r 383)], [.inl 1], t0, n, 0)) rfl (fun _ => rfl) rfl ?_
        refine ex_ret (r := (some (.inl 1), t0, n, 0)) rfl (fun _ => rfl) ?_
        exact ⟨_, rfl, 1, rfl, by omega⟩
theorem pk_find_l (d n : Nat) {t0 : en_H} {a f w rm nm : Nat} (s0 : px_S t0 a f) (hw : w ≤ 1) (k1 : ai_hv t0 383 19 = some (.inl rm)) (k2 : ai_hv t0 383 18 = some (.inl nm)) (hr : rm ≤ 24) (hn : nm ≤ 24) : ∀ j k, k + j = 25 → en_ex none (en_u d) (en_code 246) (fun _ => false) (2, [(2, .inl k), (0, gx_r 383), (1, .inl w)], [], t0, n, 0) (fun o => ∃ r, o = .inl r ∧ ∃ b, r = (some (.inl b), t0, n, 0) ∧ (b ≤ 20 ∨ b = 4294967295)) := by
  have b0 := s0.2.2.2
  intro j
  induction j with
  | zero =>
    intro k hk
    refine ex_go (S := (3, [(2, .inl k), (0, gx_r 383), (1, .inl w)], [.inl k], t0, n, 0)) rfl (fun _ => rfl) rfl ?_
    refine ex_go (S := (4, [(2, .inl k), (0, gx_r 383), (1, .inl w)], [.inl w, .inl k], t0, n, 0)) rfl (fun _ => rfl) rfl ?_
    by_cases hc1 : w = 0
    · refine gx_1t (c := .eq) rfl (by first | decide | omega) hc1 rfl ?_
      refine ex_go (S := (15, [(2, .inl k), (0, gx_r 383), (1, .inl w)], [gx_r 383, .inl k], t0, n, 0)) rfl (fun _ => rfl) rfl ?_
      refine gx_get rfl s0.1 rfl k2 rfl ?_
      refine gx_2t (c := .ge) rfl (by first | decide | omega) (by first | decide | omega) (show nm ≤ k from by omega) rfl ?_
      refine ex_go (S := (80, [(2, .inl k), (0, gx_r 383), (1, .inl w)], [.inl 4294967295], t0, n, 0)) rfl (fun _ => rfl) rfl ?_
      refine ex_ret (r := (some (.inl 4294967295), t0, n, 0)) rfl (fun _ => rfl) ?_
      exact ⟨_, rfl, 4294967295, rfl, by omega⟩
    · refine gx_1f (c := .eq) rfl (by first | decide | omega) hc1 rfl ?_
      refine ex_go (S := (8, [(2, .inl k), (0, gx_r 383), (1, .inl w)], [gx_r 383, .inl k], t0, n, 0)) rfl (fun _ => rfl) rfl ?_
      refine gx_get rfl s0.1 rfl k1 rfl ?_
      refine ex_go (S := (18, [(2, .inl k), (0, gx_r 383), (1, .inl w)], [.inl rm, .inl k], t0, n, 0)) rfl (fun _ => rfl) rfl ?_
      refine gx_2t (c := .ge) rfl (by first | decide | omega) (by first | decide | omega) (show rm ≤ k from by omega) rfl ?_
      refine ex_go (S := (80, [(2, .inl k), (0, gx_r 383), (1, .inl w)], [.inl 4294967295], t0, n, 0)) rfl (fun _ => rfl) rfl ?_
      refine ex_ret (r := (some (.inl 4294967295), t0, n, 0)) rfl (fun _ => rfl) ?_
      exact ⟨_, rfl, 4294967295, rfl, by omega⟩
  | succ j ih =>
    intro k hk
    refine ex_go (S := (3, [(2, .inl k), (0, gx_r 383), (1, .inl w)], [.inl k], t0, n, 0)) rfl (fun _ => rfl) rfl ?_
    refine ex_go (S := (4, [(2, .inl k), (0, gx_r 383), (1, .inl w)], [.inl w, .inl k], t0, n, 0)) rfl (fun _ => rfl) rfl ?_
    by_cases hc1 : w = 0
    · refine gx_1t (c := .eq) rfl (by first | decide | omega) hc1 rfl ?_
      refine ex_go (S := (15, [(2, .inl k), (0, gx_r 383), (1, .inl w)], [gx_r 383, .inl k], t0, n, 0)) rfl (fun _ => rfl) rfl ?_
      refine gx_get rfl s0.1 rfl k2 rfl ?_
      by_cases hc2 : nm ≤ k
      · refine gx_2t (c := .ge) rfl (by first | decide | omega) (by first | decide | omega) hc2 rfl ?_
        refine ex_go (S := (80, [(2, .inl k), (0, gx_r 383), (1, .inl w)], [.inl 4294967295], t0, n, 0)) rfl (fun _ => rfl) rfl ?_
        refine ex_ret (r := (some (.inl 4294967295), t0, n, 0)) rfl (fun _ => rfl) ?_
        exact ⟨_, rfl, 4294967295, rfl, by omega⟩
      · refine gx_2f (c := .ge) rfl (by first | decide | omega) (by first | decide | omega) hc2 rfl ?_
        refine ex_go (S := (22, [(2, .inl k), (0, gx_r 383), (1, .inl w)], [.inl w], t0, n, 0)) rfl (fun _ => rfl) rfl ?_
        by_cases hc3 : w = 0
        · refine gx_1t (c := .eq) rfl (by first | decide | omega) hc3 rfl ?_
          refine ex_go (S := (35, [(2, .inl k), (0, gx_r 383), (1, .inl w)], [gx_r 383], t0, n, 0)) rfl (fun _ => rfl) rfl ?_
          refine gx_ref (c := 392) rfl s0.1 rfl rfl rfl rfl ?_
          refine ex_go (S := (39, [(2, .inl k), (0, gx_r 383), (1, .inl w)], [.inl k, gx_r 392], t0, n, 0)) rfl (fun _ => rfl) rfl ?_
          obtain ⟨m4, k5⟩ := gx_long_392 s0.1 (i := k) (by first | decide | omega)
          refine gx_ag (v := .inr (.inl m4)) (cb := fun c => Nat.beq c 3) rfl (fun _ => rfl) s0.1 rfl rfl k5 (by first | decide | omega) rfl ?_
          refine ex_go (S := (41, [(2, .inl k), (0, gx_r 383), (1, .inl w)], [gx_r 383, .inr (.inl m4)], t0, n, 0)) rfl (fun _ => rfl) rfl ?_
          refine gx_ref (c := 387) rfl s0.1 rfl rfl rfl rfl ?_
          refine ex_go (S := (45, [(2, .inl k), (0, gx_r 383), (1, .inl w)], [gx_r 383, gx_r 387, .inr (.inl m4)], t0, n, 0)) rfl (fun _ => rfl) rfl ?_
          refine gx_get rfl s0.1 rfl s0.2.1 rfl ?_
          obtain ⟨m6, k7⟩ := gx_long_387 s0.1 (i := a) (by first | decide | omega)
          refine gx_ag (v := .inr (.inl m6)) (cb := fun c => Nat.beq c 3) rfl (fun _ => rfl) s0.1 rfl rfl k7 (by first | decide | omega) rfl ?_
          refine gx_lcmp rfl rfl (fun hl8 => ?_) (fun hl8 => ?_) (fun hl8 => ?_)
          · refine ex_go (S := (53, [(2, .inl k), (0, gx_r 383), (1, .inl w)], [], t0, n, 0)) rfl (fun _ => rfl) rfl ?_
            refine ex_go (S := (54, [(2, .inl k), (0, gx_r 383), (1, .inl w)], [.inl w], t0, n, 0)) rfl (fun _ => rfl) rfl ?_
            by_cases hc9 : w = 0
            · refine gx_1t (c := .eq) rfl (by first | decide | omega) hc9 rfl ?_
              refine ex_go (S := (67, [(2, .inl k), (0, gx_r 383), (1, .inl w)], [gx_r 383], t0, n, 0)) rfl (fun _ => rfl) rfl ?_
              refine gx_ref (c := 394) rfl s0.1 rfl rfl rfl rfl ?_
              refine ex_go (S := (71, [(2, .inl k), (0, gx_r 383), (1, .inl w)], [.inl k, gx_r 394], t0, n, 0)) rfl (fun _ => rfl) rfl ?_
              obtain ⟨m10, k11, m10b⟩ := gx_nof_394 s0.1 (i := k) (by first | decide | omega)
              refine gx_ag (v := .inl m10) (cb := fun c => Nat.beq c 0) rfl (fun _ => rfl) s0.1 rfl rfl k11 (by first | decide | omega) rfl ?_
              refine ex_ret (r := (some (.inl m10), t0, n, 0)) rfl (fun _ => rfl) ?_
              exact ⟨_, rfl, m10, rfl, by omega⟩
            · refine gx_1f (c := .eq) rfl (by first | decide | omega) hc9 rfl ?_
              refine ex_go (S := (58, [(2, .inl k), (0, gx_r 383), (1, .inl w)], [gx_r 383], t0, n, 0)) rfl (fun _ => rfl) rfl ?_
              refine gx_ref (c := 395) rfl s0.1 rfl rfl rfl rfl ?_
              refine ex_go (S := (62, [(2, .inl k), (0, gx_r 383), (1, .inl w)], [.inl k, gx_r 395], t0, n, 0)) rfl (fun _ => rfl) rfl ?_
              obtain ⟨m12, k13, m12b⟩ := gx_nof_395 s0.1 (i := k) (by first | decide | omega)
              refine gx_ag (v := .inl m12) (cb := fun c => Nat.beq c 0) rfl (fun _ => rfl) s0.1 rfl rfl k13 (by first | decide | omega) rfl ?_
              refine ex_go (S := (72, [(2, .inl k), (0, gx_r 383), (1, .inl w)], [.inl m12], t0, n, 0)) rfl (fun _ => rfl) rfl ?_
              refine ex_ret (r := (some (.inl m12), t0, n, 0)) rfl (fun _ => rfl) ?_
              exact ⟨_, rfl, m12, rfl, by omega⟩
          · refine ex_go (S := (73, [(2, .inl k), (0, gx_r 383), (1, .inl w)], [], t0, n, 0)) rfl (fun _ => rfl) rfl ?_
            refine gx_iinc (i := 2) (k := 1) rfl (fun _ => rfl) (by first | decide | omega) rfl ?_
            show en_ex _ _ _ _ (76, [(2, .inl (k + 1)), (0, gx_r 383), (1, .inl w)], [], t0, n, 0) _
            refine ex_go (S := (2, [(2, .inl (k + 1)), (0, gx_r 383), (1, .inl w)], [], t0, n, 0)) rfl (fun _ => rfl) rfl ?_
            exact ih (k + 1) (by first | decide | omega)
          · refine ex_go (S := (73, [(2, .inl k), (0, gx_r 383), (1, .inl w)], [], t0, n, 0)) rfl (fun _ => rfl) rfl ?_
            refine gx_iinc (i := 2) (k := 1) rfl (fun _ => rfl) (by first | decide | omega) rfl ?_
            show en_ex _ _ _ _ (76, [(2, .inl (k + 1)), (0, gx_r 383), (1, .inl w)], [], t0, n, 0) _
            refine ex_go (S := (2, [(2, .inl (k + 1)), (0, gx_r 383), (1, .inl w)], [], t0, n, 0)) rfl (fun _ => rfl) rfl ?_
            exact ih (k + 1) (by first | decide | omega)
        · refine gx_1f (c := .eq) rfl (by first | decide | omega) hc3 rfl ?_
          refine ex_go (S := (26, [(2, .inl k), (0, gx_r 383), (1, .inl w)], [gx_r 383], t0, n, 0)) rfl (fun _ => rfl) rfl ?_
          refine gx_ref (c := 393) rfl s0.1 rfl rfl rfl rfl ?_
          refine ex_go (S := (30, [(2, .inl k), (0, gx_r 383), (1, .inl w)], [.inl k, gx_r 393], t0, n, 0)) rfl (fun _ => rfl) rfl ?_
          obtain ⟨m14, k15⟩ := gx_long_393 s0.1 (i := k) (by first | decide | omega)
          refine gx_ag (v := .inr (.inl m14)) (cb := fun c => Nat.beq c 3) rfl (fun _ => rfl) s0.1 rfl rfl k15 (by first | decide | omega) rfl ?_
          refine ex_go (S := (40, [(2, .inl k), (0, gx_r 383), (1, .inl w)], [.inr (.inl m14)], t0, n, 0)) rfl (fun _ => rfl) rfl ?_
          refine ex_go (S := (41, [(2, .inl k), (0, gx_r 383), (1, .inl w)], [gx_r 383, .inr (.inl m14)], t0, n, 0)) rfl (fun _ => rfl) rfl ?_
          refine gx_ref (c := 387) rfl s0.1 rfl rfl rfl rfl ?_
          refine ex_go (S := (45, [(2, .inl k), (0, gx_r 383), (1, .inl w)], [gx_r 383, gx_r 387, .inr (.inl m14)], t0, n, 0)) rfl (fun _ => rfl) rfl ?_
          refine gx_get rfl s0.1 rfl s0.2.1 rfl ?_
          obtain ⟨m16, k17⟩ := gx_long_387 s0.1 (i := a) (by first | decide | omega)
          refine gx_ag (v := .inr (.inl m16)) (cb := fun c => Nat.beq c 3) rfl (fun _ => rfl) s0.1 rfl rfl k17 (by first | decide | omega) rfl ?_
          refine gx_lcmp rfl rfl (fun hl18 => ?_) (fun hl18 => ?_) (fun hl18 => ?_)
          · refine ex_go (S := (53, [(2, .inl k), (0, gx_r 383), (1, .inl w)], [], t0, n, 0)) rfl (fun _ => rfl) rfl ?_
            refine ex_go (S := (54, [(2, .inl k), (0, gx_r 383), (1, .inl w)], [.inl w], t0, n, 0)) rfl (fun _ => rfl) rfl ?_
            by_cases hc19 : w = 0
            · refine gx_1t (c := .eq) rfl (by first | decide | omega) hc19 rfl ?_
              refine ex_go (S := (67, [(2, .inl k), (0, gx_r 383), (1, .inl w)], [gx_r 383], t0, n, 0)) rfl (fun _ => rfl) rfl ?_
              refine gx_ref (c := 394) rfl s0.1 rfl rfl rfl rfl ?_
              refine ex_go (S := (71, [(2, .inl k), (0, gx_r 383), (1, .inl w)], [.inl k, gx_r 394], t0, n, 0)) rfl (fun _ => rfl) rfl ?_
              obtain ⟨m20, k21, m20b⟩ := gx_nof_394 s0.1 (i := k) (by first | decide | omega)
              refine gx_ag (v := .inl m20) (cb := fun c => Nat.beq c 0) rfl (fun _ => rfl) s0.1 rfl rfl k21 (by first | decide | omega) rfl ?_
              refine ex_ret (r := (some (.inl m20), t0, n, 0)) rfl (fun _ => rfl) ?_
              exact ⟨_, rfl, m20, rfl, by omega⟩
            · refine gx_1f (c := .eq) rfl (by first | decide | omega) hc19 rfl ?_
              refine ex_go (S := (58, [(2, .inl k), (0, gx_r 383), (1, .inl w)], [gx_r 383], t0, n, 0)) rfl (fun _ => rfl) rfl ?_
              refine gx_ref (c := 395) rfl s0.1 rfl rfl rfl rfl ?_
              refine ex_go (S := (62, [(2, .inl k), (0, gx_r 383), (1, .inl w)], [.inl k, gx_r 395], t0, n, 0)) rfl (fun _ => rfl) rfl ?_
              obtain ⟨m22, k23, m22b⟩ := gx_nof_395 s0.1 (i := k) (by first | decide | omega)
              refine gx_ag (v := .inl m22) (cb := fun c => Nat.beq c 0) rfl (fun _ => rfl) s0.1 rfl rfl k23 (by first | decide | omega) rfl ?_
              refine ex_go (S := (72, [(2, .inl k), (0, gx_r 383), (1, .inl w)], [.inl m22], t0, n, 0)) rfl (fun _ => rfl) rfl ?_
              refine ex_ret (r := (some (.inl m22), t0, n, 0)) rfl (fun _ => rfl) ?_
              exact ⟨_, rfl, m22, rfl, by omega⟩
          · refine ex_go (S := (73, [(2, .inl k), (0, gx_r 383), (1, .inl w)], [], t0, n, 0)) rfl (fun _ => rfl) rfl ?_
            refine gx_iinc (i := 2) (k := 1) rfl (fun _ => rfl) (by first | decide | omega) rfl ?_
            show en_ex _ _ _ _ (76, [(2, .inl (k + 1)), (0, gx_r 383), (1, .inl w)], [], t0, n, 0) _
            refine ex_go (S := (2, [(2, .inl (k + 1)), (0, gx_r 383), (1, .inl w)], [], t0, n, 0)) rfl (fun _ => rfl) rfl ?_
            exact ih (k + 1) (by first | decide | omega)
          · refine ex_go (S := (73, [(2, .inl k), (0, gx_r 383), (1, .inl w)], [], t0, n, 0)) rfl (fun _ => rfl) rfl ?_
            refine gx_iinc (i := 2) (k := 1) rfl (fun _ => rfl) (by first | decide | omega) rfl ?_
            show en_ex _ _ _ _ (76, [(2, .inl (k + 1)), (0, gx_r 383), (1, .inl w)], [], t0, n, 0) _
            refine ex_go (S := (2, [(2, .inl (k + 1)), (0, gx_r 383), (1, .inl w)], [], t0, n, 0)) rfl (fun _ => rfl) rfl ?_
            exact ih (k + 1) (by first | decide | omega)
    · refine gx_1f (c := .eq) rfl (by first | decide | omega) hc1 rfl ?_
      refine ex_go (S := (8, [(2, .inl k), (0, gx_r 383), (1, .inl w)], [gx_r 383, .inl k], t0, n, 0)) rfl (fun _ => rfl) rfl ?_
      refine gx_get rfl s0.1 rfl k1 rfl ?_
      refine ex_go (S := (18, [(2, .inl k), (0, gx_r 383), (1, .inl w)], [.inl rm, .inl k], t0, n, 0)) rfl (fun _ => rfl) rfl ?_
      by_cases hc24 : rm ≤ k
      · refine gx_2t (c := .ge) rfl (by first | decide | omega) (by first | decide | omega) hc24 rfl ?_
        refine ex_go (S := (80, [(2, .inl k), (0, gx_r 383), (1, .inl w)], [.inl 4294967295], t0, n, 0)) rfl (fun _ => rfl) rfl ?_
        refine ex_ret (r := (some (.inl 4294967295), t0, n, 0)) rfl (fun _ => rfl) ?_
        exact ⟨_, rfl, 4294967295, rfl, by omega⟩
      · refine gx_2f (c := .ge) rfl (by first | decide | omega) (by first | decide | omega) hc24 rfl ?_
        refine ex_go (S := (22, [(2, .inl k), (0, gx_r 383), (1, .inl w)], [.inl w], t0, n, 0)) rfl (fun _ => rfl) rfl ?_
        by_cases hc25 : w = 0
        · refine gx_1t (c := .eq) rfl (by first | decide | omega) hc25 rfl ?_
          refine ex_go (S := (35, [(2, .inl k), (0, gx_r 383), (1, .inl w)], [gx_r 383], t0, n, 0)) rfl (fun _ => rfl) rfl ?_
          refine gx_ref (c := 392) rfl s0.1 rfl rfl rfl rfl ?_
          refine ex_go (S := (39, [(2, .inl k), (0, gx_r 383), (1, .inl w)], [.inl k, gx_r 392], t0, n, 0)) rfl (fun _ => rfl) rfl ?_
          obtain ⟨m26, k27⟩ := gx_long_392 s0.1 (i := k) (by first | decide | omega)
          refine gx_ag (v := .inr (.inl m26)) (cb := fun c => Nat.beq c 3) rfl (fun _ => rfl) s0.1 rfl rfl k27 (by first | decide | omega) rfl ?_
          refine ex_go (S := (41, [(2, .inl k), (0, gx_r 383), (1, .inl w)], [gx_r 383, .inr (.inl m26)], t0, n, 0)) rfl (fun _ => rfl) rfl ?_
          refine gx_ref (c := 387) rfl s0.1 rfl rfl rfl rfl ?_
          refine ex_go (S := (45, [(2, .inl k), (0, gx_r 383), (1, .inl w)], [gx_r 383, gx_r 387, .inr (.inl m26)], t0, n, 0)) rfl (fun _ => rfl) rfl ?_
          refine gx_get rfl s0.1 rfl s0.2.1 rfl ?_
          obtain ⟨m28, k29⟩ := gx_long_387 s0.1 (i := a) (by first | decide | omega)
          refine gx_ag (v := .inr (.inl m28)) (cb := fun c => Nat.beq c 3) rfl (fun _ => rfl) s0.1 rfl rfl k29 (by first | decide | omega) rfl ?_
          refine gx_lcmp rfl rfl (fun hl30 => ?_) (fun hl30 => ?_) (fun hl30 => ?_)
          · refine ex_go (S := (53, [(2, .inl k), (0, gx_r 383), (1, .inl w)], [], t0, n, 0)) rfl (fun _ => rfl) rfl ?_
            refine ex_go (S := (54, [(2, .inl k), (0, gx_r 383), (1, .inl w)], [.inl w], t0, n, 0)) rfl (fun _ => rfl) rfl ?_
            by_cases hc31 : w = 0
            · refine gx_1t (c := .eq) rfl (by first | decide | omega) hc31 rfl ?_
              refine ex_go (S := (67, [(2, .inl k), (0, gx_r 383), (1, .inl w)], [gx_r 383], t0, n, 0)) rfl (fun _ => rfl) rfl ?_
              refine gx_ref (c := 394) rfl s0.1 rfl rfl rfl rfl ?_
              refine ex_go (S := (71, [(2, .inl k), (0, gx_r 383), (1, .inl w)], [.inl k, gx_r 394], t0, n, 0)) rfl (fun _ => rfl) rfl ?_
              obtain ⟨m32, k33, m32b⟩ := gx_nof_394 s0.1 (i := k) (by first | decide | omega)
              refine gx_ag (v := .inl m32) (cb := fun c => Nat.beq c 0) rfl (fun _ => rfl) s0.1 rfl rfl k33 (by first | decide | omega) rfl ?_
              refine ex_ret (r := (some (.inl m32), t0, n, 0)) rfl (fun _ => rfl) ?_
              exact ⟨_, rfl, m32, rfl, by omega⟩
            · refine gx_1f (c := .eq) rfl (by first | decide | omega) hc31 rfl ?_
              refine ex_go (S := (58, [(2, .inl k), (0, gx_r 383), (1, .inl w)], [gx_r 383], t0, n, 0)) rfl (fun _ => rfl) rfl ?_
              refine gx_ref (c := 395) rfl s0.1 rfl rfl rfl rfl ?_
              refine ex_go (S := (62, [(2, .inl k), (0, gx_r 383), (1, .inl w)], [.inl k, gx_r 395], t0, n, 0)) rfl (fun _ => rfl) rfl ?_
              obtain ⟨m34, k35, m34b⟩ := gx_nof_395 s0.1 (i := k) (by first | decide | omega)
              refine gx_ag (v := .inl m34) (cb := fun c => Nat.beq c 0) rfl (fun _ => rfl) s0.1 rfl rfl k35 (by first | decide | omega) rfl ?_
              refine ex_go (S := (72, [(2, .inl k), (0, gx_r 383), (1, .inl w)], [.inl m34], t0, n, 0)) rfl (fun _ => rfl) rfl ?_
              refine ex_ret (r := (some (.inl m34), t0, n, 0)) rfl (fun _ => rfl) ?_
              exact ⟨_, rfl, m34, rfl, by omega⟩
          · refine ex_go (S := (73, [(2, .inl k), (0, gx_r 383), (1, .inl w)], [], t0, n, 0)) rfl (fun _ => rfl) rfl ?_
            refine gx_iinc (i := 2) (k := 1) rfl (fun _ => rfl) (by first | decide | omega) rfl ?_
            show en_ex _ _ _ _ (76, [(2, .inl (k + 1)), (0, gx_r 383), (1, .inl w)], [], t0, n, 0) _
            refine ex_go (S := (2, [(2, .inl (k + 1)), (0, gx_r 383), (1, .inl w)], [], t0, n, 0)) rfl (fun _ => rfl) rfl ?_
            exact ih (k + 1) (by first | decide | omega)
          · refine ex_go (S := (73, [(2, .inl k), (0, gx_r 383), (1, .inl w)], [], t0, n, 0)) rfl (fun _ => rfl) rfl ?_
            refine gx_iinc (i := 2) (k := 1) rfl (fun _ => rfl) (by first | decide | omega) rfl ?_
            show en_ex _ _ _ _ (76, [(2, .inl (k + 1)), (0, gx_r 383), (1, .inl w)], [], t0, n, 0) _
            refine ex_go (S := (2, [(2, .inl (k + 1)), (0, gx_r 383), (1, .inl w)], [], t0, n, 0)) rfl (fun _ => rfl) rfl ?_
            exact ih (k + 1) (by first | decide | omega)
        · refine gx_1f (c := .eq) rfl (by first | decide | omega) hc25 rfl ?_
          refine ex_go (S := (26, [(2, .inl k), (0, gx_r 383), (1, .inl w)], [gx_r 383], t0, n, 0)) rfl (fun _ => rfl) rfl ?_
          refine gx_ref (c := 393) rfl s0.1 rfl rfl rfl rfl ?_
          refine ex_go (S := (30, [(2, .inl k), (0, gx_r 383), (1, .inl w)], [.inl k, gx_r 393], t0, n, 0)) rfl (fun _ => rfl) rfl ?_
          obtain ⟨m36, k37⟩ := gx_long_393 s0.1 (i := k) (by first | decide | omega)
          refine gx_ag (v := .inr (.inl m36)) (cb := fun c => Nat.beq c 3) rfl (fun _ => rfl) s0.1 rfl rfl k37 (by first | decide | omega) rfl ?_
          refine ex_go (S := (40, [(2, .inl k), (0, gx_r 383), (1, .inl w)], [.inr (.inl m36)], t0, n, 0)) rfl (fun _ => rfl) rfl ?_
          refine ex_go (S := (41, [(2, .inl k), (0, gx_r 383), (1, .inl w)], [gx_r 383, .inr (.inl m36)], t0, n, 0)) rfl (fun _ => rfl) rfl ?_
          refine gx_ref (c := 387) rfl s0.1 rfl rfl rfl rfl ?_
          refine ex_go (S := (45, [(2, .inl k), (0, gx_r 383), (1, .inl w)], [gx_r 383, gx_r 387, .inr (.inl m36)], t0, n, 0)) rfl (fun _ => rfl) rfl ?_
          refine gx_get rfl s0.1 rfl s0.2.1 rfl ?_
          obtain ⟨m38, k39⟩ := gx_long_387 s0.1 (i := a) (by first | decide | omega)
          refine gx_ag (v := .inr (.inl m38)) (cb := fun c => Nat.beq c 3) rfl (fun _ => rfl) s0.1 rfl rfl k39 (by first | decide | omega) rfl ?_
          refine gx_lcmp rfl rfl (fun hl40 => ?_) (fun hl40 => ?_) (fun hl40 => ?_)
          · refine ex_go (S := (53, [(2, .inl k), (0, gx_r 383), (1, .inl w)], [], t0, n, 0)) rfl (fun _ => rfl) rfl ?_
            refine ex_go (S := (54, [(2, .inl k), (0, gx_r 383), (1, .inl w)], [.inl w], t0, n, 0)) rfl (fun _ => rfl) rfl ?_
            by_cases hc41 : w = 0
            · refine gx_1t (c := .eq) rfl (by first | decide | omega) hc41 rfl ?_
              refine ex_go (S := (67, [(2, .inl k), (0, gx_r 383), (1, .inl w)], [gx_r 383], t0, n, 0)) rfl (fun _ => rfl) rfl ?_
              refine gx_ref (c := 394) rfl s0.1 rfl rfl rfl rfl ?_
              refine ex_go (S := (71, [(2, .inl k), (0, gx_r 383), (1, .inl w)], [.inl k, gx_r 394], t0, n, 0)) rfl (fun _ => rfl) rfl ?_
              obtain ⟨m42, k43, m42b⟩ := gx_nof_394 s0.1 (i := k) (by first | decide | omega)
              refine gx_ag (v := .inl m42) (cb := fun c => Nat.beq c 0) rfl (fun _ => rfl) s0.1 rfl rfl k43 (by first | decide | omega) rfl ?_
              refine ex_ret (r := (some (.inl m42), t0, n, 0)) rfl (fun _ => rfl) ?_
              exact ⟨_, rfl, m42, rfl, by omega⟩
            · refine gx_1f (c := .eq) rfl (by first | decide | omega) hc41 rfl ?_
              refine ex_go (S := (58, [(2, .inl k), (0, gx_r 383), (1, .inl w)], [gx_r 383], t0, n, 0)) rfl (fun _ => rfl) rfl ?_
              refine gx_ref (c := 395) rfl s0.1 rfl rfl rfl rfl ?_
              refine ex_go (S := (62, [(2, .inl k), (0, gx_r 383), (1, .inl w)], [.inl k, gx_r 395], t0, n, 0)) rfl (fun _ => rfl) rfl ?_
              obtain ⟨m44, k45, m44b⟩ := gx_nof_395 s0.1 (i := k) (by first | decide | omega)
              refine gx_ag (v := .inl m44) (cb := fun c => Nat.beq c 0) rfl (fun _ => rfl) s0.1 rfl rfl k45 (by first | decide | omega) rfl ?_
              refine ex_go (S := (72, [(2, .inl k), (0, gx_r 383), (1, .inl w)], [.inl m44], t0, n, 0)) rfl (fun _ => rfl) rfl ?_
              refine ex_ret (r := (some (.inl m44), t0, n, 0)) rfl (fun _ => rfl) ?_
              exact ⟨_, rfl, m44, rfl, by omega⟩
          · refine ex_go (S := (73, [(2, .inl k), (0, gx_r 383), (1, .inl w)], [], t0, n, 0)) rfl (fun _ => rfl) rfl ?_
            refine gx_iinc (i := 2) (k := 1) rfl (fun _ => rfl) (by first | decide | omega) rfl ?_
            show en_ex _ _ _ _ (76, [(2, .inl (k + 1)), (0, gx_r 383), (1, .inl w)], [], t0, n, 0) _
            refine ex_go (S := (2, [(2, .inl (k + 1)), (0, gx_r 383), (1, .inl w)], [], t0, n, 0)) rfl (fun _ => rfl) rfl ?_
            exact ih (k + 1) (by first | decide | omega)
          · refine ex_go (S := (73, [(2, .inl k), (0, gx_r 383), (1, .inl w)], [], t0, n, 0)) rfl (fun _ => rfl) rfl ?_
            refine gx_iinc (i := 2) (k := 1) rfl (fun _ => rfl) (by first | decide | omega) rfl ?_
            show en_ex _ _ _ _ (76, [(2, .inl (k + 1)), (0, gx_r 383), (1, .inl w)], [], t0, n, 0) _
            refine ex_go (S := (2, [(2, .inl (k + 1)), (0, gx_r 383), (1, .inl w)], [], t0, n, 0)) rfl (fun _ => rfl) rfl ?_
            exact ih (k + 1) (by first | decide | omega)
theorem pk_find (d n : Nat) {t0 : en_H} {a f w : Nat} (s0 : px_S t0 a f) (hw : w ≤ 1) : ∃ r, en_u (d + 1) 246 [gx_r 383, .inl w] t0 n = some r ∧ ∃ b, r = (some (.inl b), t0, n, 0) ∧ (b ≤ 20 ∨ b = 4294967295) := by
  have b0 := s0.2.2.2
  refine en_u_ex rfl ?_
  show en_ex _ _ _ _ (0, [(0, gx_r 383), (1, .inl w)], [], t0, n, 0) _
  obtain ⟨rm, k1, -, hr⟩ := gx_in (c := 383) (i := 19) (lo := 0) (hi := 24) s0.1 rfl rfl rfl rfl
  obtain ⟨nm, k2, -, hn⟩ := gx_in (c := 383) (i := 18) (lo := 0) (hi := 24) s0.1 rfl rfl rfl rfl
  refine ex_go (S := (1, [(0, gx_r 383), (1, .inl w)], [.inl 0], t0, n, 0)) rfl (fun _ => rfl) rfl ?_
  refine ex_go (S := (2, [(2, .inl 0), (0, gx_r 383), (1, .inl w)], [], t0, n, 0)) rfl (fun _ => rfl) rfl ?_
  exact pk_find_l d n s0 hw k1 k2 hr hn 25 0 (by first | decide | omega)
theorem pk_lastOver (d n : Nat) {t0 : en_H} {m : Nat} (g0 : ai_HG ah_G t0) (k0 : ai_hv t0 389 160 = some (.inl m)) (hm : 1 ≤ m ∧ m ≤ 8) : ∃ r, en_u (d + 1) 242 [gx_r 383] t0 n = some r ∧ r = (some (.inl (m - 1)), t0, n, 0) := by
  refine en_u_ex rfl ?_
  show en_ex _ _ _ _ (0, [(0, gx_r 383)], [], t0, n, 0) _
  refine ex_go (S := (1, [(0, gx_r 383)], [gx_r 383], t0, n, 0)) rfl (fun _ => rfl) rfl ?_
  refine gx_ref (c := 389) rfl g0 rfl rfl rfl rfl ?_
  refine ex_go (S := (7, [(0, gx_r 383)], [.inl 160, gx_r 389], t0, n, 0)) rfl (fun _ => rfl) rfl ?_
  refine gx_ag (v := .inl m) (cb := fun c => Nat.beq c 0) rfl (fun _ => rfl) g0 rfl rfl k0 (by first | decide | omega) rfl ?_
  refine ex_go (S := (9, [(0, gx_r 383)], [.inl 1, .inl m], t0, n, 0)) rfl (fun _ => rfl) rfl ?_
  refine gx_isub rfl (by first | decide | omega) (by first | decide | omega) rfl ?_
  refine ex_ret (r := (some (.inl (m - 1)), t0, n, 0)) rfl (fun _ => rfl) ?_
  exact ⟨_, rfl, rfl⟩
theorem pk_lastDown (d n : Nat) {t0 : en_H} {m : Nat} (g0 : ai_HG ah_G t0) (k0 : ai_hv t0 389 161 = some (.inl m)) (hm : 1 ≤ m ∧ m ≤ 8) : ∃ r, en_u (d + 1) 240 [gx_r 383] t0 n = some r ∧ r = (some (.inl (m - 1)), t0, n, 0) := by
  refine en_u_ex rfl ?_
  show en_ex _ _ _ _ (0, [(0, gx_r 383)], [], t0, n, 0) _
  refine ex_go (S := (1, [(0, gx_r 383)], [gx_r 383], t0, n, 0)) rfl (fun _ => rfl) rfl ?_
  refine gx_ref (c := 389) rfl g0 rfl rfl rfl rfl ?_
  refine ex_go (S := (7, [(0, gx_r 383)], [.inl 161, gx_r 389], t0, n, 0)) rfl (fun _ => rfl) rfl ?_
  refine gx_ag (v := .inl m) (cb := fun c => Nat.beq c 0) rfl (fun _ => rfl) g0 rfl rfl k0 (by first | decide | omega) rfl ?_
  refine ex_go (S := (9, [(0, gx_r 383)], [.inl 1, .inl m], t0, n, 0)) rfl (fun _ => rfl) rfl ?_
  refine gx_isub rfl (by first | decide | omega) (by first | decide | omega) rfl ?_
  refine ex_ret (r := (some (.inl (m - 1)), t0, n, 0)) rfl (fun _ => rfl) ?_
  exact ⟨_, rfl, rfl⟩
end PK1
