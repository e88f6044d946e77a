section SPD
theorem sp_le_iff {g : Nat} : sp_le g = true ↔ 97 ≤ g ∧ g ≤ 122 := by
  unfold sp_le
  rw [Bool.and_eq_true]
  exact ⟨fun h => ⟨Nat.le_of_ble_eq_true h.1, Nat.le_of_ble_eq_true h.2⟩, fun h => ⟨Nat.ble_eq_true_of_le h.1, Nat.ble_eq_true_of_le h.2⟩⟩
theorem sp_di_iff {g : Nat} : sp_di g = true ↔ 48 ≤ g ∧ g ≤ 57 := by
  unfold sp_di
  rw [Bool.and_eq_true]
  exact ⟨fun h => ⟨Nat.le_of_ble_eq_true h.1, Nat.le_of_ble_eq_true h.2⟩, fun h => ⟨Nat.ble_eq_true_of_le h.1, Nat.ble_eq_true_of_le h.2⟩⟩
theorem sp_no {P : Nat → Bool} {g : Nat} (h : ¬ P g = true) : P g = false := Bool.eq_false_iff.mpr h
theorem sp_hv_n {S : Nat → Nat} {p b c k : Nat} (h : p ≤ k) : sp_hv S p b c (k - p + 1) = b * sp_hv S p b c (k - p) + (S k - c) := by
  show b * sp_hv S p b c (k - p) + (S (p + (k - p)) - c) = _
  rw [show p + (k - p) = k by omega]
theorem sp_hv37 {S : Nat → Nat} {p n : Nat} (hn : n ≤ 8) (h : ∀ j, j < n → sp_le (S (p + j)) = true) : sp_hv S p 37 96 n < 3512479453921 := by
  have h1 := sp_hv_lt (S := S) (p := p) (b := 37) (c := 96) (n := n) (fun j hj => by have := sp_le_iff.mp (h j hj); omega)
  exact Nat.lt_of_lt_of_le h1 (Nat.le_trans (Nat.pow_le_pow_right (by decide) hn) (by decide))
theorem sp_hv10 {S : Nat → Nat} {p n : Nat} (hn : n ≤ 4) (h : ∀ j, j < n → sp_di (S (p + j)) = true) : sp_hv S p 10 48 n < 10000 := by
  have h1 := sp_hv_lt (S := S) (p := p) (b := 10) (c := 48) (n := n) (fun j hj => by have := sp_di_iff.mp (h j hj); omega)
  exact Nat.lt_of_lt_of_le h1 (Nat.le_trans (Nat.pow_le_pow_right (by decide) hn) (by decide))
theorem pk_rankx (d n : Nat) {t0 : en_H} {x : Nat} (hx : 97 ≤ x ∧ x ≤ 122) : ∃ r, en_u (d + 2) 181 [.inl x] t0 n = some r ∧ ∃ b, r = (some (.inl b), t0, n, 0) ∧ b = x - 96 := by
  refine en_u_ex (d := d + 1) rfl ?_
  show en_ex _ _ _ _ (0, [(0, .inl x)], [], t0, n, 0) _
  refine ex_go (S := (1, [(0, .inl x)], [.inl x], t0, n, 0)) rfl (fun _ => rfl) rfl ?_
  obtain ⟨_, r1, b2, rfl, q3⟩ := pk_isLetter (d + 0) n (t0 := t0) (x := x) (by first | decide | omega)
  refine ex_stat rfl rfl rfl rfl rfl r1 (Nat.le_refl _) rfl ?_
  show en_ex _ _ _ _ (4, [(0, .inl x)], [.inl b2], t0, n, 0) _
  refine gx_1f (c := .eq) rfl (by first | decide | omega) (show ¬ (b2 = 0) from by omega) rfl ?_
  refine ex_go (S := (8, [(0, .inl x)], [.inl x], t0, n, 0)) rfl (fun _ => rfl) rfl ?_
  refine ex_go (S := (10, [(0, .inl x)], [.inl 96, .inl x], t0, n, 0)) rfl (fun _ => rfl) rfl ?_
  refine gx_isub rfl (by first | decide | omega) (by first | decide | omega) rfl ?_
  refine ex_go (S := (18, [(0, .inl x)], [.inl (x - 96)], t0, n, 0)) rfl (fun _ => rfl) rfl ?_
  refine ex_ret (r := (some (.inl (x - 96)), t0, n, 0)) rfl (fun _ => rfl) ?_
  exact ⟨_, rfl, x - 96, rfl, by omega⟩
theorem cx_let (d n : Nat) {t0 : en_H} {S : Nat → Nat} {m nn fr : Nat} {Q : en_O → Prop} (g0 : ai_HG ah_G t0) (km : ai_hv t0 383 3 = some (.inl m)) (hm : m ≤ 1000) (hS : ∀ i, i < m → ai_hv t0 384 i = some (.inl (S i)) ∧ S i ≤ 255) (hQ : ∀ cl, en_ld cl 0 = some (gx_r 383) → en_ld cl 1 = some (.inl nn) → en_ld cl 2 = some (.inl (sp_rn S sp_le m fr)) → en_ld cl 4 = some (.inl fr) → en_ld cl 5 = some (.inr (.inl (sp_hv S fr 37 96 (min (sp_rn S sp_le m fr - fr) 8)))) → en_ex none (en_u (d + 2)) (en_code 93) (fun _ => false) (129, cl, [], t0, n, 0) Q) : ∀ j k v cl, k + j = m → fr ≤ k → sp_rn S sp_le m fr = sp_rn S sp_le m k → (∀ i, fr ≤ i → i < k → sp_le (S i) = true) → v = sp_hv S fr 37 96 (min (k - fr) 8) → en_ld cl 0 = some (gx_r 383) → en_ld cl 1 = some (.inl nn) → en_ld cl 2 = some (.inl k) → en_ld cl 4 = some (.inl fr) → en_ld cl 5 = some (.inr (.inl v)) → en_ex none (en_u (d + 2)) (en_code 93) (fun _ => false) (70, cl, [], t0, n, 0) Q := by
  intro j
  induction j with
  | zero =>
    intro k v cl hk hfk hr ha hv h0 h1 h2 h4 h5
    refine gx_ld (i := 2) (d := 0) (v := .inl k) rfl (fun _ => rfl) h2 rfl rfl ?_
    refine gx_ld (i := 0) (d := 2) (v := gx_r 383) rfl (fun _ => rfl) h0 rfl rfl ?_
    refine gx_get rfl g0 rfl km rfl ?_
    refine gx_2t (c := .ge) rfl (by first | decide | omega) (by first | decide | omega) (show m ≤ k from by omega) rfl ?_
    have hend : sp_rn S sp_le m fr = k := hr.trans (sp_rn_end S sp_le (by first | decide | omega))
    exact hQ _ h0 h1 (by rw [hend]; exact h2) h4 (by rw [hend, ← hv]; exact h5)
  | succ j ih =>
    intro k v cl hk hfk hr ha hv h0 h1 h2 h4 h5
    have hvb : v < 3512479453921 := by
      rw [hv]
      exact sp_hv37 (Nat.min_le_right _ _) (fun j9 h9 => ha _ (by first | decide | omega) (by have := Nat.min_le_left (k - fr) 8; omega))
    refine gx_ld (i := 2) (d := 0) (v := .inl k) rfl (fun _ => rfl) h2 rfl rfl ?_
    refine gx_ld (i := 0) (d := 2) (v := gx_r 383) rfl (fun _ => rfl) h0 rfl rfl ?_
    refine gx_get rfl g0 rfl km rfl ?_
    refine gx_2f (c := .ge) rfl (by first | decide | omega) (by first | decide | omega) (show ¬ (m ≤ k) from by omega) rfl ?_
    refine gx_ld (i := 0) (d := 2) (v := gx_r 383) rfl (fun _ => rfl) h0 rfl rfl ?_
    refine gx_ref (c := 384) rfl g0 rfl rfl rfl rfl ?_
    refine gx_ld (i := 2) (d := 0) (v := .inl k) rfl (fun _ => rfl) h2 rfl rfl ?_
    have k1 := (hS (k) (by first | decide | omega)).1
    have k1b := (hS (k) (by first | decide | omega)).2
    refine gx_ag (v := .inl (S k)) (cb := fun c => Nat.beq c 0) rfl (fun _ => rfl) g0 rfl rfl k1 (by first | decide | omega) rfl ?_
    obtain ⟨_, r2, b3, rfl, q4⟩ := pk_isLetter (d + 1) n (t0 := t0) (x := S k) (by first | decide | omega)
    refine ex_stat rfl rfl rfl rfl rfl r2 (Nat.le_refl _) rfl ?_
    show en_ex _ _ _ _ (87, cl, [.inl b3], t0, n, 0) _
    by_cases hc5 : b3 = 0
    · refine gx_1t (c := .eq) rfl (by first | decide | omega) hc5 rfl ?_
      have hend : sp_rn S sp_le m fr = k := hr.trans (sp_rn_f (sp_no (fun z => by have := sp_le_iff.mp z; omega)))
      exact hQ _ h0 h1 (by rw [hend]; exact h2) h4 (by rw [hend, ← hv]; exact h5)
    · refine gx_1f (c := .eq) rfl (by first | decide | omega) hc5 rfl ?_
      refine gx_ld (i := 2) (d := 0) (v := .inl k) rfl (fun _ => rfl) h2 rfl rfl ?_
      refine gx_ld (i := 4) (d := 0) (v := .inl fr) rfl (fun _ => rfl) h4 rfl rfl ?_
      refine gx_isub rfl (by first | decide | omega) (by first | decide | omega) rfl ?_
      refine ex_go (S := (96, cl, [.inl 8, .inl (k - fr)], t0, n, 0)) rfl (fun _ => rfl) rfl ?_
      by_cases hc6 : 8 ≤ k - fr
      · refine gx_2t (c := .ge) rfl (by first | decide | omega) (by first | decide | omega) hc6 rfl ?_
        refine gx_ld (i := 5) (d := 1) (v := .inr (.inl v)) rfl (fun _ => rfl) h5 rfl rfl ?_
        refine gx_sto (i := 5) (d := 1) rfl (fun _ => rfl) rfl rfl (fun l7 hl7 ml7 => ?_)
        have l7_0 : en_ld l7 0 = some (gx_r 383) := ml7 0 _ h0 rfl
        have l7_1 : en_ld l7 1 = some (.inl nn) := ml7 1 _ h1 rfl
        have l7_2 : en_ld l7 2 = some (.inl k) := ml7 2 _ h2 rfl
        have l7_4 : en_ld l7 4 = some (.inl fr) := ml7 4 _ h4 rfl
        refine gx_incS (i := 2) (a := k) (x := 1) rfl (fun _ => rfl) l7_2 (by first | decide | omega) rfl (fun l8 hl8 ml8 => ?_)
        have l8_0 : en_ld l8 0 = some (gx_r 383) := ml8 0 _ l7_0 rfl
        have l8_1 : en_ld l8 1 = some (.inl nn) := ml8 1 _ l7_1 rfl
        have l8_4 : en_ld l8 4 = some (.inl fr) := ml8 4 _ l7_4 rfl
        have l8_5 : en_ld l8 5 = some (.inr (.inl v)) := ml8 5 _ hl7 rfl
        refine ex_go (S := (70, l8, [], t0, n, 0)) rfl (fun _ => rfl) rfl ?_
        have hlt : sp_le (S k) = true := sp_le_iff.mpr (by first | decide | omega)
        have hvn : v = sp_hv S fr 37 96 (min (k + 1 - fr) 8) := by
          rw [hv, Nat.min_eq_right (show 8 ≤ k - fr by omega), Nat.min_eq_right (show 8 ≤ k + 1 - fr by omega)]
        exact ih (k + 1) _ _ (by first | decide | omega) (by first | decide | omega) (hr.trans (sp_rn_t (by first | decide | omega) hlt)) (fun i z1 z2 => by
          by_cases e : i = k
          · rw [e]; exact hlt
          · exact ha i z1 (by first | decide | omega)) hvn l8_0 l8_1 hl8 l8_4 l8_5
      · refine gx_2f (c := .ge) rfl (by first | decide | omega) (by first | decide | omega) hc6 rfl ?_
        refine ex_go (S := (102, cl, [.inr (.inl 37)], t0, n, 0)) rfl (fun _ => rfl) rfl ?_
        refine gx_ld (i := 5) (d := 1) (v := .inr (.inl v)) rfl (fun _ => rfl) h5 rfl rfl ?_
        refine ex_go (S := (105, cl, [.inr (.inl ((lN 37 * lN v).toBitVec.toNat))], t0, n, 0)) rfl (fun _ => rfl) rfl ?_
        rw [sp_lmul (by first | decide | omega)]
        refine gx_ld (i := 0) (d := 2) (v := gx_r 383) rfl (fun _ => rfl) h0 rfl rfl ?_
        refine gx_ref (c := 384) rfl g0 rfl rfl rfl rfl ?_
        refine gx_ld (i := 2) (d := 0) (v := .inl k) rfl (fun _ => rfl) h2 rfl rfl ?_
        refine gx_ag (v := .inl (S k)) (cb := fun c => Nat.beq c 0) rfl (fun _ => rfl) g0 rfl rfl k1 (by first | decide | omega) rfl ?_
        obtain ⟨_, r9, b10, rfl, q11⟩ := pk_rankx (d + 0) n (t0 := t0) (x := S k) (by first | decide | omega)
        refine ex_stat rfl rfl rfl rfl rfl r9 (Nat.le_refl _) rfl ?_
        show en_ex _ _ _ _ (114, cl, [.inl b10, .inr (.inl (37 * v))], t0, n, 0) _
        refine ex_go (S := (115, cl, [.inr (.inl ((nI b10).toInt64.toBitVec.toNat)), .inr (.inl (37 * v))], t0, n, 0)) rfl (fun _ => rfl) rfl ?_
        rw [sp_i2l (by first | decide | omega)]
        refine ex_go (S := (116, cl, [.inr (.inl ((lN (37 * v) + lN b10).toBitVec.toNat))], t0, n, 0)) rfl (fun _ => rfl) rfl ?_
        rw [sp_ladd (by first | decide | omega)]
        refine ex_go (S := (121, cl, [.inr (.inl (((37 * v)) + b10))], t0, n, 0)) rfl (fun _ => rfl) rfl ?_
        refine gx_sto (i := 5) (d := 1) rfl (fun _ => rfl) rfl rfl (fun l12 hl12 ml12 => ?_)
        have l12_0 : en_ld l12 0 = some (gx_r 383) := ml12 0 _ h0 rfl
        have l12_1 : en_ld l12 1 = some (.inl nn) := ml12 1 _ h1 rfl
        have l12_2 : en_ld l12 2 = some (.inl k) := ml12 2 _ h2 rfl
        have l12_4 : en_ld l12 4 = some (.inl fr) := ml12 4 _ h4 rfl
        refine gx_incS (i := 2) (a := k) (x := 1) rfl (fun _ => rfl) l12_2 (by first | decide | omega) rfl (fun l13 hl13 ml13 => ?_)
        have l13_0 : en_ld l13 0 = some (gx_r 383) := ml13 0 _ l12_0 rfl
        have l13_1 : en_ld l13 1 = some (.inl nn) := ml13 1 _ l12_1 rfl
        have l13_4 : en_ld l13 4 = some (.inl fr) := ml13 4 _ l12_4 rfl
        have l13_5 : en_ld l13 5 = some (.inr (.inl (((37 * v)) + b10))) := ml13 5 _ hl12 rfl
        refine ex_go (S := (70, l13, [], t0, n, 0)) rfl (fun _ => rfl) rfl ?_
        have hlt : sp_le (S k) = true := sp_le_iff.mpr (by first | decide | omega)
        have hvn : ((37 * v)) + b10 = sp_hv S fr 37 96 (min (k + 1 - fr) 8) := by
          rw [Nat.min_eq_left (show k + 1 - fr ≤ 8 by omega), show k + 1 - fr = k - fr + 1 by omega, sp_hv_n hfk]
          rw [Nat.min_eq_left (show k - fr ≤ 8 by omega)] at hv
          omega
        exact ih (k + 1) _ _ (by first | decide | omega) (by first | decide | omega) (hr.trans (sp_rn_t (by first | decide | omega) hlt)) (fun i z1 z2 => by
          by_cases e : i = k
          · rw [e]; exact hlt
          · exact ha i z1 (by first | decide | omega)) hvn l13_0 l13_1 hl13 l13_4 l13_5
theorem cx_dig (d n : Nat) {t0 : en_H} {S : Nat → Nat} {m nn fr : Nat} {Q : en_O → Prop} (g0 : ai_HG ah_G t0) (km : ai_hv t0 383 3 = some (.inl m)) (hm : m ≤ 1000) (hS : ∀ i, i < m → ai_hv t0 384 i = some (.inl (S i)) ∧ S i ≤ 255) (hQ : ∀ cl, en_ld cl 0 = some (gx_r 383) → en_ld cl 1 = some (.inl nn) → en_ld cl 2 = some (.inl (sp_rn S sp_di m fr)) → en_ld cl 4 = some (.inl fr) → en_ld cl 5 = some (.inr (.inl (sp_hv S fr 10 48 (min (sp_rn S sp_di m fr - fr) 4)))) → en_ex none (en_u (d + 2)) (en_code 93) (fun _ => false) (218, cl, [], t0, n, 0) Q) : ∀ j k v cl, k + j = m → fr ≤ k → sp_rn S sp_di m fr = sp_rn S sp_di m k → (∀ i, fr ≤ i → i < k → sp_di (S i) = true) → v = sp_hv S fr 10 48 (min (k - fr) 4) → en_ld cl 0 = some (gx_r 383) → en_ld cl 1 = some (.inl nn) → en_ld cl 2 = some (.inl k) → en_ld cl 4 = some (.inl fr) → en_ld cl 5 = some (.inr (.inl v)) → en_ex none (en_u (d + 2)) (en_code 93) (fun _ => false) (159, cl, [], t0, n, 0) Q := by
  intro j
  induction j with
  | zero =>
    intro k v cl hk hfk hr ha hv h0 h1 h2 h4 h5
    refine gx_ld (i := 2) (d := 0) (v := .inl k) rfl (fun _ => rfl) h2 rfl rfl ?_
    refine gx_ld (i := 0) (d := 2) (v := gx_r 383) rfl (fun _ => rfl) h0 rfl rfl ?_
    refine gx_get rfl g0 rfl km rfl ?_
    refine gx_2t (c := .ge) rfl (by first | decide | omega) (by first | decide | omega) (show m ≤ k from by omega) rfl ?_
    have hend : sp_rn S sp_di m fr = k := hr.trans (sp_rn_end S sp_di (by first | decide | omega))
    exact hQ _ h0 h1 (by rw [hend]; exact h2) h4 (by rw [hend, ← hv]; exact h5)
  | succ j ih =>
    intro k v cl hk hfk hr ha hv h0 h1 h2 h4 h5
    have hvb : v < 10000 := by
      rw [hv]
      exact sp_hv10 (Nat.min_le_right _ _) (fun j9 h9 => ha _ (by first | decide | omega) (by have := Nat.min_le_left (k - fr) 4; omega))
    refine gx_ld (i := 2) (d := 0) (v := .inl k) rfl (fun _ => rfl) h2 rfl rfl ?_
    refine gx_ld (i := 0) (d := 2) (v := gx_r 383) rfl (fun _ => rfl) h0 rfl rfl ?_
    refine gx_get rfl g0 rfl km rfl ?_
    refine gx_2f (c := .ge) rfl (by first | decide | omega) (by first | decide | omega) (show ¬ (m ≤ k) from by omega) rfl ?_
    refine gx_ld (i := 0) (d := 2) (v := gx_r 383) rfl (fun _ => rfl) h0 rfl rfl ?_
    refine gx_ref (c := 384) rfl g0 rfl rfl rfl rfl ?_
    refine gx_ld (i := 2) (d := 0) (v := .inl k) rfl (fun _ => rfl) h2 rfl rfl ?_
    have k1 := (hS (k) (by first | decide | omega)).1
    have k1b := (hS (k) (by first | decide | omega)).2
    refine gx_ag (v := .inl (S k)) (cb := fun c => Nat.beq c 0) rfl (fun _ => rfl) g0 rfl rfl k1 (by first | decide | omega) rfl ?_
    obtain ⟨_, r2, b3, rfl, q4⟩ := pk_isDigit (d + 1) n (t0 := t0) (x := S k) (by first | decide | omega)
    refine ex_stat rfl rfl rfl rfl rfl r2 (Nat.le_refl _) rfl ?_
    show en_ex _ _ _ _ (176, cl, [.inl b3], t0, n, 0) _
    by_cases hc5 : b3 = 0
    · refine gx_1t (c := .eq) rfl (by first | decide | omega) hc5 rfl ?_
      have hend : sp_rn S sp_di m fr = k := hr.trans (sp_rn_f (sp_no (fun z => by have := sp_di_iff.mp z; omega)))
      exact hQ _ h0 h1 (by rw [hend]; exact h2) h4 (by rw [hend, ← hv]; exact h5)
    · refine gx_1f (c := .eq) rfl (by first | decide | omega) hc5 rfl ?_
      refine gx_ld (i := 2) (d := 0) (v := .inl k) rfl (fun _ => rfl) h2 rfl rfl ?_
      refine gx_ld (i := 4) (d := 0) (v := .inl fr) rfl (fun _ => rfl) h4 rfl rfl ?_
      refine gx_isub rfl (by first | decide | omega) (by first | decide | omega) rfl ?_
      refine ex_go (S := (184, cl, [.inl 4, .inl (k - fr)], t0, n, 0)) rfl (fun _ => rfl) rfl ?_
      by_cases hc6 : 4 ≤ k - fr
      · refine gx_2t (c := .ge) rfl (by first | decide | omega) (by first | decide | omega) hc6 rfl ?_
        refine gx_ld (i := 5) (d := 1) (v := .inr (.inl v)) rfl (fun _ => rfl) h5 rfl rfl ?_
        refine gx_sto (i := 5) (d := 1) rfl (fun _ => rfl) rfl rfl (fun l7 hl7 ml7 => ?_)
        have l7_0 : en_ld l7 0 = some (gx_r 383) := ml7 0 _ h0 rfl
        have l7_1 : en_ld l7 1 = some (.inl nn) := ml7 1 _ h1 rfl
        have l7_2 : en_ld l7 2 = some (.inl k) := ml7 2 _ h2 rfl
        have l7_4 : en_ld l7 4 = some (.inl fr) := ml7 4 _ h4 rfl
        refine gx_incS (i := 2) (a := k) (x := 1) rfl (fun _ => rfl) l7_2 (by first | decide | omega) rfl (fun l8 hl8 ml8 => ?_)
        have l8_0 : en_ld l8 0 = some (gx_r 383) := ml8 0 _ l7_0 rfl
        have l8_1 : en_ld l8 1 = some (.inl nn) := ml8 1 _ l7_1 rfl
        have l8_4 : en_ld l8 4 = some (.inl fr) := ml8 4 _ l7_4 rfl
        have l8_5 : en_ld l8 5 = some (.inr (.inl v)) := ml8 5 _ hl7 rfl
        refine ex_go (S := (159, l8, [], t0, n, 0)) rfl (fun _ => rfl) rfl ?_
        have hlt : sp_di (S k) = true := sp_di_iff.mpr (by first | decide | omega)
        have hvn : v = sp_hv S fr 10 48 (min (k + 1 - fr) 4) := by
          rw [hv, Nat.min_eq_right (show 4 ≤ k - fr by omega), Nat.min_eq_right (show 4 ≤ k + 1 - fr by omega)]
        exact ih (k + 1) _ _ (by first | decide | omega) (by first | decide | omega) (hr.trans (sp_rn_t (by first | decide | omega) hlt)) (fun i z1 z2 => by
          by_cases e : i = k
          · rw [e]; exact hlt
          · exact ha i z1 (by first | decide | omega)) hvn l8_0 l8_1 hl8 l8_4 l8_5
      · refine gx_2f (c := .ge) rfl (by first | decide | omega) (by first | decide | omega) hc6 rfl ?_
        refine ex_go (S := (190, cl, [.inr (.inl 10)], t0, n, 0)) rfl (fun _ => rfl) rfl ?_
        refine gx_ld (i := 5) (d := 1) (v := .inr (.inl v)) rfl (fun _ => rfl) h5 rfl rfl ?_
        refine ex_go (S := (193, cl, [.inr (.inl ((lN 10 * lN v).toBitVec.toNat))], t0, n, 0)) rfl (fun _ => rfl) rfl ?_
        rw [sp_lmul (by first | decide | omega)]
        refine gx_ld (i := 0) (d := 2) (v := gx_r 383) rfl (fun _ => rfl) h0 rfl rfl ?_
        refine gx_ref (c := 384) rfl g0 rfl rfl rfl rfl ?_
        refine gx_ld (i := 2) (d := 0) (v := .inl k) rfl (fun _ => rfl) h2 rfl rfl ?_
        refine gx_ag (v := .inl (S k)) (cb := fun c => Nat.beq c 0) rfl (fun _ => rfl) g0 rfl rfl k1 (by first | decide | omega) rfl ?_
        refine ex_go (S := (200, cl, [.inr (.inl ((nI (S k)).toInt64.toBitVec.toNat)), .inr (.inl (10 * v))], t0, n, 0)) rfl (fun _ => rfl) rfl ?_
        rw [sp_i2l (by first | decide | omega)]
        refine ex_go (S := (201, cl, [.inr (.inl ((lN (10 * v) + lN (S k)).toBitVec.toNat))], t0, n, 0)) rfl (fun _ => rfl) rfl ?_
        rw [sp_ladd (by first | decide | omega)]
        refine ex_go (S := (204, cl, [.inr (.inl 48), .inr (.inl (((10 * v)) + ((S k))))], t0, n, 0)) rfl (fun _ => rfl) rfl ?_
        refine ex_go (S := (205, cl, [.inr (.inl ((lN (((10 * v)) + ((S k))) - lN 48).toBitVec.toNat))], t0, n, 0)) rfl (fun _ => rfl) rfl ?_
        rw [sp_lsub (by first | decide | omega) (by first | decide | omega)]
        refine ex_go (S := (210, cl, [.inr (.inl (((((10 * v)) + ((S k)))) - 48))], t0, n, 0)) rfl (fun _ => rfl) rfl ?_
        refine gx_sto (i := 5) (d := 1) rfl (fun _ => rfl) rfl rfl (fun l9 hl9 ml9 => ?_)
        have l9_0 : en_ld l9 0 = some (gx_r 383) := ml9 0 _ h0 rfl
        have l9_1 : en_ld l9 1 = some (.inl nn) := ml9 1 _ h1 rfl
        have l9_2 : en_ld l9 2 = some (.inl k) := ml9 2 _ h2 rfl
        have l9_4 : en_ld l9 4 = some (.inl fr) := ml9 4 _ h4 rfl
        refine gx_incS (i := 2) (a := k) (x := 1) rfl (fun _ => rfl) l9_2 (by first | decide | omega) rfl (fun l10 hl10 ml10 => ?_)
        have l10_0 : en_ld l10 0 = some (gx_r 383) := ml10 0 _ l9_0 rfl
        have l10_1 : en_ld l10 1 = some (.inl nn) := ml10 1 _ l9_1 rfl
        have l10_4 : en_ld l10 4 = some (.inl fr) := ml10 4 _ l9_4 rfl
        have l10_5 : en_ld l10 5 = some (.inr (.inl (((((10 * v)) + ((S k)))) - 48))) := ml10 5 _ hl9 rfl
        refine ex_go (S := (159, l10, [], t0, n, 0)) rfl (fun _ => rfl) rfl ?_
        have hlt : sp_di (S k) = true := sp_di_iff.mpr (by first | decide | omega)
        have hvn : ((((10 * v)) + ((S k)))) - 48 = sp_hv S fr 10 48 (min (k + 1 - fr) 4) := by
          rw [Nat.min_eq_left (show k + 1 - fr ≤ 4 by omega), show k + 1 - fr = k - fr + 1 by omega, sp_hv_n hfk]
          rw [Nat.min_eq_left (show k - fr ≤ 4 by omega)] at hv
          omega
        exact ih (k + 1) _ _ (by first | decide | omega) (by first | decide | omega) (hr.trans (sp_rn_t (by first | decide | omega) hlt)) (fun i z1 z2 => by
          by_cases e : i = k
          · rw [e]; exact hlt
          · exact ha i z1 (by first | decide | omega)) hvn l10_0 l10_1 hl10 l10_4 l10_5
theorem sp_bl_iff {g : Nat} : sp_bl g = true ↔ g = 10 ∨ g = 32 := by
  unfold sp_bl
  rw [Bool.or_eq_true]
  exact ⟨fun h => h.elim (fun z => Or.inl (Nat.eq_of_beq_eq_true z)) (fun z => Or.inr (Nat.eq_of_beq_eq_true z)), fun h => h.elim (fun z => Or.inl (by rw [z]; rfl)) (fun z => Or.inr (by rw [z]; rfl))⟩
theorem sp_si_iff {g : Nat} : sp_si g = true ↔ g = 40 ∨ g = 41 ∨ g = 59 ∨ g = 61 ∨ g = 60 ∨ g = 43 ∨ g = 45 ∨ g = 42 := by
  unfold sp_si
  constructor
  · intro h
    simp only [Bool.or_eq_true] at h
    rcases h with ((((((h | h) | h) | h) | h) | h) | h) | h <;> have := Nat.eq_of_beq_eq_true h <;> omega
  · intro h
    rcases h with rfl | rfl | rfl | rfl | rfl | rfl | rfl | rfl <;> rfl
theorem sp_te_l {S : Nat → Nat} {m p : Nat} (h : sp_le (S p) = true) : sp_te S m p = sp_rn S sp_le m p := by unfold sp_te; rw [h]; rfl
theorem sp_te_d {S : Nat → Nat} {m p : Nat} (h1 : sp_le (S p) = false) (h : sp_di (S p) = true) : sp_te S m p = sp_rn S sp_di m p := by unfold sp_te; rw [h1, h]; rfl
theorem sp_te_s {S : Nat → Nat} {m p : Nat} (h1 : sp_le (S p) = false) (h : sp_di (S p) = false) : sp_te S m p = p + 1 := by unfold sp_te; rw [h1, h]; rfl
theorem sp_ble_t {a b : Nat} (h : a ≤ b) : Nat.ble a b = true := Nat.ble_eq_true_of_le h
theorem sp_ble_f {a b : Nat} (h : ¬ a ≤ b) : Nat.ble a b = false := Bool.eq_false_iff.mpr (fun z => h (Nat.le_of_ble_eq_true z))
theorem sp_ty_l1 {S : Nat → Nat} {m p : Nat} (h : sp_le (S p) = true) (h2 : sp_rn S sp_le m p - p ≤ 8) : sp_ty S m p = 1 := by unfold sp_ty; rw [h, sp_ble_t h2]; rfl
theorem sp_ty_l4 {S : Nat → Nat} {m p : Nat} (h : sp_le (S p) = true) (h2 : ¬ sp_rn S sp_le m p - p ≤ 8) : sp_ty S m p = 4 := by unfold sp_ty; rw [h, sp_ble_f h2]; rfl
theorem sp_ty_d1 {S : Nat → Nat} {m p : Nat} (h1 : sp_le (S p) = false) (h : sp_di (S p) = true) (h2 : sp_rn S sp_di m p - p ≤ 4) : sp_ty S m p = 2 := by unfold sp_ty; rw [h1, h, sp_ble_t h2]; rfl
theorem sp_ty_d4 {S : Nat → Nat} {m p : Nat} (h1 : sp_le (S p) = false) (h : sp_di (S p) = true) (h2 : ¬ sp_rn S sp_di m p - p ≤ 4) : sp_ty S m p = 4 := by unfold sp_ty; rw [h1, h, sp_ble_f h2]; rfl
theorem sp_ty_s3 {S : Nat → Nat} {m p : Nat} (h1 : sp_le (S p) = false) (h : sp_di (S p) = false) (h2 : sp_si (S p) = true) : sp_ty S m p = 3 := by unfold sp_ty; rw [h1, h, h2]; rfl
theorem sp_ty_s4 {S : Nat → Nat} {m p : Nat} (h1 : sp_le (S p) = false) (h : sp_di (S p) = false) (h2 : sp_si (S p) = false) : sp_ty S m p = 4 := by unfold sp_ty; rw [h1, h, h2]; rfl
theorem sp_vR_l {S : Nat → Nat} {m p : Nat} (h : sp_le (S p) = true) : sp_vR S m p = sp_hv S p 37 96 (min (sp_rn S sp_le m p - p) 8) := by unfold sp_vR; rw [h]; rfl
theorem sp_vR_d {S : Nat → Nat} {m p : Nat} (h1 : sp_le (S p) = false) (h : sp_di (S p) = true) : sp_vR S m p = sp_hv S p 10 48 (min (sp_rn S sp_di m p - p) 4) := by unfold sp_vR; rw [h1, h]; rfl
theorem sp_vR_s {S : Nat → Nat} {m p : Nat} (h1 : sp_le (S p) = false) (h : sp_di (S p) = false) : sp_vR S m p = S p := by unfold sp_vR; rw [h1, h]; rfl
/-- the reference's tokens, the first nn of them -/
noncomputable def tR (t : en_H) (S : Nat → Nat) (m nn : Nat) : Prop := ∀ j, j < nn → sp_st S m j < m ∧ ai_hv t 385 j = some (.inl (sp_ty S m (sp_st S m j))) ∧ ai_hv t 386 j = some (.inl (sp_st S m j)) ∧ ai_hv t 387 j = some (.inr (.inl (sp_vR S m (sp_st S m j))))
theorem tR_next {t t' : en_H} {S : Nat → Nat} {m nn k : Nat} (h : tR t S m nn) (hs : sp_st S m nn = k) (hk : k < m) (e : ∀ c i, c ≠ 383 → i < nn → ai_hv t' c i = ai_hv t c i) (k1 : ai_hv t' 385 nn = some (.inl (sp_ty S m k))) (k2 : ai_hv t' 386 nn = some (.inl k)) (k3 : ai_hv t' 387 nn = some (.inr (.inl (sp_vR S m k)))) : tR t' S m (nn + 1) := fun j hj => by
  by_cases e9 : j = nn
  · subst e9
    rw [hs]
    exact ⟨hk, k1, k2, k3⟩
  · obtain ⟨z1, z2, z3, z4⟩ := h j (by first | decide | omega)
    exact ⟨z1, (e 385 j (by decide) (by first | decide | omega)).trans z2, (e 386 j (by decide) (by first | decide | omega)).trans z3, (e 387 j (by decide) (by first | decide | omega)).trans z4⟩
theorem tR_keep {t t' : en_H} {S : Nat → Nat} {m nn : Nat} (h : tR t S m nn) (e : ∀ c i, c ≠ 383 → i < nn → ai_hv t' c i = ai_hv t c i) : tR t' S m nn := fun j hj => by
  obtain ⟨z1, z2, z3, z4⟩ := h j hj
  exact ⟨z1, (e 385 j (by decide) hj).trans z2, (e 386 j (by decide) hj).trans z3, (e 387 j (by decide) hj).trans z4⟩
theorem pk_isSignOfx (d n : Nat) {t0 : en_H} {x : Nat} (hx : x ≤ 255) : ∃ r, en_u (d + 1) 183 [.inl x] t0 n = some r ∧ ∃ b, r = (some (.inl b), t0, n, 0) ∧ (b ≤ 1 ∧ (b = 1 ↔ x = 40 ∨ x = 41 ∨ x = 59 ∨ x = 61 ∨ x = 60 ∨ x = 43 ∨ x = 45 ∨ x = 42)) := by
  refine en_u_ex rfl ?_
  show en_ex _ _ _ _ (0, [(0, .inl x)], [], t0, n, 0) _
  refine ex_go (S := (1, [(0, .inl x)], [.inl x], t0, n, 0)) rfl (fun _ => rfl) rfl ?_
  refine ex_go (S := (3, [(0, .inl x)], [.inl 40, .inl x], t0, n, 0)) rfl (fun _ => rfl) rfl ?_
  by_cases hc1 : x = 40
  · refine gx_2t (c := .eq) rfl (by first | decide | omega) (by first | decide | omega) hc1 rfl ?_
    refine ex_go (S := (49, [(0, .inl x)], [.inl 1], t0, n, 0)) rfl (fun _ => rfl) rfl ?_
    refine ex_go (S := (53, [(0, .inl x)], [.inl 1], t0, n, 0)) rfl (fun _ => rfl) rfl ?_
    refine ex_ret (r := (some (.inl 1), t0, n, 0)) rfl (fun _ => rfl) ?_
    exact ⟨_, rfl, 1, rfl, by omega⟩
  · refine gx_2f (c := .eq) rfl (by first | decide | omega) (by first | decide | omega) hc1 rfl ?_
    refine ex_go (S := (7, [(0, .inl x)], [.inl x], t0, n, 0)) rfl (fun _ => rfl) rfl ?_
    refine ex_go (S := (9, [(0, .inl x)], [.inl 41, .inl x], t0, n, 0)) rfl (fun _ => rfl) rfl ?_
    by_cases hc2 : x = 41
    · refine gx_2t (c := .eq) rfl (by first | decide | omega) (by first | decide | omega) hc2 rfl ?_
      refine ex_go (S := (49, [(0, .inl x)], [.inl 1], t0, n, 0)) rfl (fun _ => rfl) rfl ?_
      refine ex_go (S := (53, [(0, .inl x)], [.inl 1], t0, n, 0)) rfl (fun _ => rfl) rfl ?_
      refine ex_ret (r := (some (.inl 1), t0, n, 0)) rfl (fun _ => rfl) ?_
      exact ⟨_, rfl, 1, rfl, by omega⟩
    · refine gx_2f (c := .eq) rfl (by first | decide | omega) (by first | decide | omega) hc2 rfl ?_
      refine ex_go (S := (13, [(0, .inl x)], [.inl x], t0, n, 0)) rfl (fun _ => rfl) rfl ?_
      refine ex_go (S := (15, [(0, .inl x)], [.inl 59, .inl x], t0, n, 0)) rfl (fun _ => rfl) rfl ?_
      by_cases hc3 : x = 59
      · refine gx_2t (c := .eq) rfl (by first | decide | omega) (by first | decide | omega) hc3 rfl ?_
        refine ex_go (S := (49, [(0, .inl x)], [.inl 1], t0, n, 0)) rfl (fun _ => rfl) rfl ?_
        refine ex_go (S := (53, [(0, .inl x)], [.inl 1], t0, n, 0)) rfl (fun _ => rfl) rfl ?_
        refine ex_ret (r := (some (.inl 1), t0, n, 0)) rfl (fun _ => rfl) ?_
        exact ⟨_, rfl, 1, rfl, by omega⟩
      · refine gx_2f (c := .eq) rfl (by first | decide | omega) (by first | decide | omega) hc3 rfl ?_
        refine ex_go (S := (19, [(0, .inl x)], [.inl x], t0, n, 0)) rfl (fun _ => rfl) rfl ?_
        refine ex_go (S := (21, [(0, .inl x)], [.inl 61, .inl x], t0, n, 0)) rfl (fun _ => rfl) rfl ?_
        by_cases hc4 : x = 61
        · refine gx_2t (c := .eq) rfl (by first | decide | omega) (by first | decide | omega) hc4 rfl ?_
          refine ex_go (S := (49, [(0, .inl x)], [.inl 1], t0, n, 0)) rfl (fun _ => rfl) rfl ?_
          refine ex_go (S := (53, [(0, .inl x)], [.inl 1], t0, n, 0)) rfl (fun _ => rfl) rfl ?_
          refine ex_ret (r := (some (.inl 1), t0, n, 0)) rfl (fun _ => rfl) ?_
          exact ⟨_, rfl, 1, rfl, by omega⟩
        · refine gx_2f (c := .eq) rfl (by first | decide | omega) (by first | decide | omega) hc4 rfl ?_
          refine ex_go (S := (25, [(0, .inl x)], [.inl x], t0, n, 0)) rfl (fun _ => rfl) rfl ?_
          refine ex_go (S := (27, [(0, .inl x)], [.inl 60, .inl x], t0, n, 0)) rfl (fun _ => rfl) rfl ?_
          by_cases hc5 : x = 60
          · refine gx_2t (c := .eq) rfl (by first | decide | omega) (by first | decide | omega) hc5 rfl ?_
            refine ex_go (S := (49, [(0, .inl x)], [.inl 1], t0, n, 0)) rfl (fun _ => rfl) rfl ?_
            refine ex_go (S := (53, [(0, .inl x)], [.inl 1], t0, n, 0)) rfl (fun _ => rfl) rfl ?_
            refine ex_ret (r := (some (.inl 1), t0, n, 0)) rfl (fun _ => rfl) ?_
            exact ⟨_, rfl, 1, rfl, by omega⟩
          · refine gx_2f (c := .eq) rfl (by first | decide | omega) (by first | decide | omega) hc5 rfl ?_
            refine ex_go (S := (31, [(0, .inl x)], [.inl x], t0, n, 0)) rfl (fun _ => rfl) rfl ?_
            refine ex_go (S := (33, [(0, .inl x)], [.inl 43, .inl x], t0, n, 0)) rfl (fun _ => rfl) rfl ?_
            by_cases hc6 : x = 43
            · refine gx_2t (c := .eq) rfl (by first | decide | omega) (by first | decide | omega) hc6 rfl ?_
              refine ex_go (S := (49, [(0, .inl x)], [.inl 1], t0, n, 0)) rfl (fun _ => rfl) rfl ?_
              refine ex_go (S := (53, [(0, .inl x)], [.inl 1], t0, n, 0)) rfl (fun _ => rfl) rfl ?_
              refine ex_ret (r := (some (.inl 1), t0, n, 0)) rfl (fun _ => rfl) ?_
              exact ⟨_, rfl, 1, rfl, by omega⟩
            · refine gx_2f (c := .eq) rfl (by first | decide | omega) (by first | decide | omega) hc6 rfl ?_
              refine ex_go (S := (37, [(0, .inl x)], [.inl x], t0, n, 0)) rfl (fun _ => rfl) rfl ?_
              refine ex_go (S := (39, [(0, .inl x)], [.inl 45, .inl x], t0, n, 0)) rfl (fun _ => rfl) rfl ?_
              by_cases hc7 : x = 45
              · refine gx_2t (c := .eq) rfl (by first | decide | omega) (by first | decide | omega) hc7 rfl ?_
                refine ex_go (S := (49, [(0, .inl x)], [.inl 1], t0, n, 0)) rfl (fun _ => rfl) rfl ?_
                refine ex_go (S := (53, [(0, .inl x)], [.inl 1], t0, n, 0)) rfl (fun _ => rfl) rfl ?_
                refine ex_ret (r := (some (.inl 1), t0, n, 0)) rfl (fun _ => rfl) ?_
                exact ⟨_, rfl, 1, rfl, by omega⟩
              · refine gx_2f (c := .eq) rfl (by first | decide | omega) (by first | decide | omega) hc7 rfl ?_
                refine ex_go (S := (43, [(0, .inl x)], [.inl x], t0, n, 0)) rfl (fun _ => rfl) rfl ?_
                refine ex_go (S := (45, [(0, .inl x)], [.inl 42, .inl x], t0, n, 0)) rfl (fun _ => rfl) rfl ?_
                by_cases hc8 : x ≠ 42
                · refine gx_2t (c := .ne) rfl (by first | decide | omega) (by first | decide | omega) hc8 rfl ?_
                  refine ex_go (S := (53, [(0, .inl x)], [.inl 0], t0, n, 0)) rfl (fun _ => rfl) rfl ?_
                  refine ex_ret (r := (some (.inl 0), t0, n, 0)) rfl (fun _ => rfl) ?_
                  exact ⟨_, rfl, 0, rfl, by omega⟩
                · refine gx_2f (c := .ne) rfl (by first | decide | omega) (by first | decide | omega) hc8 rfl ?_
                  refine ex_go (S := (49, [(0, .inl x)], [.inl 1], t0, n, 0)) rfl (fun _ => rfl) rfl ?_
                  refine ex_go (S := (53, [(0, .inl x)], [.inl 1], t0, n, 0)) rfl (fun _ => rfl) rfl ?_
                  refine ex_ret (r := (some (.inl 1), t0, n, 0)) rfl (fun _ => rfl) ?_
                  exact ⟨_, rfl, 1, rfl, by omega⟩
theorem cx_out (d n : Nat) {tb : en_H} {S : Nat → Nat} {m : Nat} (hm : m ≤ 1000) (hSb : ∀ i, i < m → ai_hv tb 384 i = some (.inl (S i)) ∧ S i ≤ 255) : ∀ j k nn cl t0, m ≤ k + j → k ≤ m → nn ≤ k → ai_HG ah_G t0 → ai_hv t0 383 3 = some (.inl m) → ai_hv t0 383 2 = some (.inl 0) → (∀ c i, ¬ ((c = 383 ∧ (i = 2 ∨ i = 3 ∨ i = 7 ∨ i = 8)) ∨ c = 385 ∨ c = 386 ∨ c = 387) → ai_hv t0 c i = ai_hv tb c i) → sp_nx S m k = sp_st S m nn → tR t0 S m nn → en_ld cl 0 = some (gx_r 383) → en_ld cl 1 = some (.inl nn) → en_ld cl 2 = some (.inl k) → en_ex none (en_u (d + 2)) (en_code 93) (fun _ => false) (17, cl, [], t0, n, 0) (fun o => ∃ r, o = .inl r ∧ ∃ t', r = (none, t', n, 0) ∧ px_S t' 0 0 ∧ ai_hv t' 383 2 = some (.inl 0) ∧ (∀ c i, ¬ ((c = 383 ∧ (i = 2 ∨ i = 3 ∨ i = 7 ∨ i = 8)) ∨ c = 385 ∨ c = 386 ∨ c = 387) → ai_hv t' c i = ai_hv tb c i) ∧ ∃ N, N ≤ m ∧ tR t' S m N ∧ sp_st S m N = m ∧ ai_hv t' 385 N = some (.inl 0) ∧ ai_hv t' 386 N = some (.inl m)) := by
  intro j
  induction j with
  | zero =>
    intro k nn cl t0 hj hk hn g0 km kt e0 hx hT h0 h1 h2
    have hS : ∀ i, i < m → ai_hv t0 384 i = some (.inl (S i)) ∧ S i ≤ 255 := fun i hi => ⟨(e0 384 i (by first | decide | omega)).trans (hSb i hi).1, (hSb i hi).2⟩
    refine gx_ld (i := 2) (d := 0) (v := .inl k) rfl (fun _ => rfl) h2 rfl rfl ?_
    refine gx_ld (i := 0) (d := 2) (v := gx_r 383) rfl (fun _ => rfl) h0 rfl rfl ?_
    refine gx_get rfl g0 rfl km rfl ?_
    refine gx_2t (c := .ge) rfl (by first | decide | omega) (by first | decide | omega) (show m ≤ k from by omega) rfl ?_
    refine gx_ld (i := 0) (d := 2) (v := gx_r 383) rfl (fun _ => rfl) h0 rfl rfl ?_
    refine gx_ref (c := 385) rfl g0 rfl rfl rfl rfl ?_
    refine gx_ld (i := 1) (d := 0) (v := .inl nn) rfl (fun _ => rfl) h1 rfl rfl ?_
    refine ex_go (S := (285, cl, [.inl 0, .inl nn, gx_r 385], t0, n, 0)) rfl (fun _ => rfl) rfl ?_
    obtain ⟨p2, hrp2, hvp2⟩ := gx_sort0 nn (by first | decide | omega)
    refine gx_ap rfl (fun _ => rfl) g0 rfl rfl rfl (show nn < 1002 from by omega) hrp2 hvp2 rfl (fun t101 g101 k101 e101 => ?_)
    have k3 : ai_hv t101 383 3 = some (.inl m) := (e101 383 3 (by first | decide | omega)).trans km
    have k4 : ai_hv t101 383 2 = some (.inl 0) := (e101 383 2 (by first | decide | omega)).trans kt
    refine gx_ld (i := 0) (d := 2) (v := gx_r 383) rfl (fun _ => rfl) h0 rfl rfl ?_
    refine gx_ref (c := 386) rfl g101 rfl rfl rfl rfl ?_
    refine gx_ld (i := 1) (d := 0) (v := .inl nn) rfl (fun _ => rfl) h1 rfl rfl ?_
    refine gx_ld (i := 0) (d := 2) (v := gx_r 383) rfl (fun _ => rfl) h0 rfl rfl ?_
    refine gx_get rfl g101 rfl k3 rfl ?_
    refine gx_ap rfl (fun _ => rfl) g101 rfl rfl rfl (show nn < 1002 from by omega) (gx_run1 (show nn < 1002 from by omega)) (ai_in_h (by first | decide | omega) (by first | decide | omega) (by first | decide | omega)) rfl (fun t105 g105 k105 e105 => ?_)
    have k6 : ai_hv t105 383 3 = some (.inl m) := (e105 383 3 (by first | decide | omega)).trans k3
    have k7 : ai_hv t105 383 2 = some (.inl 0) := (e105 383 2 (by first | decide | omega)).trans k4
    have k8 : ai_hv t105 385 nn = some (.inl 0) := (e105 385 nn (by first | decide | omega)).trans k101
    refine gx_ld (i := 0) (d := 2) (v := gx_r 383) rfl (fun _ => rfl) h0 rfl rfl ?_
    refine ex_go (S := (298, cl, [.inl 0, gx_r 383], t105, n, 0)) rfl (fun _ => rfl) rfl ?_
    refine gx_put rfl g105 rfl rfl (ai_in_h (by first | decide | omega) (by first | decide | omega) (by first | decide | omega)) rfl (fun t109 g109 k109 e109 => ?_)
    have k10 : ai_hv t109 383 3 = some (.inl m) := (e109 383 3 (by first | decide | omega)).trans k6
    have k11 : ai_hv t109 383 2 = some (.inl 0) := (e109 383 2 (by first | decide | omega)).trans k7
    have k12 : ai_hv t109 385 nn = some (.inl 0) := (e109 385 nn (by first | decide | omega)).trans k8
    have k13 : ai_hv t109 386 nn = some (.inl m) := (e109 386 nn (by first | decide | omega)).trans k105
    refine gx_ld (i := 0) (d := 2) (v := gx_r 383) rfl (fun _ => rfl) h0 rfl rfl ?_
    refine ex_go (S := (303, cl, [.inl 0, gx_r 383], t109, n, 0)) rfl (fun _ => rfl) rfl ?_
    refine gx_put rfl g109 rfl rfl (ai_in_h (by first | decide | omega) (by first | decide | omega) (by first | decide | omega)) rfl (fun t114 g114 k114 e114 => ?_)
    have k15 : ai_hv t114 383 3 = some (.inl m) := (e114 383 3 (by first | decide | omega)).trans k10
    have k16 : ai_hv t114 383 2 = some (.inl 0) := (e114 383 2 (by first | decide | omega)).trans k11
    have k17 : ai_hv t114 385 nn = some (.inl 0) := (e114 385 nn (by first | decide | omega)).trans k12
    have k18 : ai_hv t114 386 nn = some (.inl m) := (e114 386 nn (by first | decide | omega)).trans k13
    have k19 : ai_hv t114 383 7 = some (.inl 0) := (e114 383 7 (by first | decide | omega)).trans k109
    refine ex_ret (r := (none, t114, n, 0)) rfl (fun _ => rfl) ?_
    have hend : sp_st S m nn = m := by
      rw [← hx, show k = m by omega]
      exact sp_rn_end S sp_bl (Nat.le_refl _)
    exact ⟨_, rfl, t114, rfl, ⟨g114, k19, k114, by omega, by omega⟩, k16, (fun c i h => (e114 c i (by first | decide | omega)).trans ((e109 c i (by first | decide | omega)).trans ((e105 c i (by first | decide | omega)).trans ((e101 c i (by first | decide | omega)).trans (e0 c i h))))), nn, by omega, tR_keep hT (fun c i h h9 => (e114 c i (by first | decide | omega)).trans ((e109 c i (by first | decide | omega)).trans ((e105 c i (by first | decide | omega)).trans (e101 c i (by first | decide | omega))))), hend, k17, k18⟩
  | succ j ih =>
    intro k nn cl t0 hj hk hn g0 km kt e0 hx hT h0 h1 h2
    have hS : ∀ i, i < m → ai_hv t0 384 i = some (.inl (S i)) ∧ S i ≤ 255 := fun i hi => ⟨(e0 384 i (by first | decide | omega)).trans (hSb i hi).1, (hSb i hi).2⟩
    refine gx_ld (i := 2) (d := 0) (v := .inl k) rfl (fun _ => rfl) h2 rfl rfl ?_
    refine gx_ld (i := 0) (d := 2) (v := gx_r 383) rfl (fun _ => rfl) h0 rfl rfl ?_
    refine gx_get rfl g0 rfl km rfl ?_
    by_cases hc1 : m ≤ k
    · refine gx_2t (c := .ge) rfl (by first | decide | omega) (by first | decide | omega) hc1 rfl ?_
      refine gx_ld (i := 0) (d := 2) (v := gx_r 383) rfl (fun _ => rfl) h0 rfl rfl ?_
      refine gx_ref (c := 385) rfl g0 rfl rfl rfl rfl ?_
      refine gx_ld (i := 1) (d := 0) (v := .inl nn) rfl (fun _ => rfl) h1 rfl rfl ?_
      refine ex_go (S := (285, cl, [.inl 0, .inl nn, gx_r 385], t0, n, 0)) rfl (fun _ => rfl) rfl ?_
      obtain ⟨p3, hrp3, hvp3⟩ := gx_sort0 nn (by first | decide | omega)
      refine gx_ap rfl (fun _ => rfl) g0 rfl rfl rfl (show nn < 1002 from by omega) hrp3 hvp3 rfl (fun t102 g102 k102 e102 => ?_)
      have k4 : ai_hv t102 383 3 = some (.inl m) := (e102 383 3 (by first | decide | omega)).trans km
      have k5 : ai_hv t102 383 2 = some (.inl 0) := (e102 383 2 (by first | decide | omega)).trans kt
      refine gx_ld (i := 0) (d := 2) (v := gx_r 383) rfl (fun _ => rfl) h0 rfl rfl ?_
      refine gx_ref (c := 386) rfl g102 rfl rfl rfl rfl ?_
      refine gx_ld (i := 1) (d := 0) (v := .inl nn) rfl (fun _ => rfl) h1 rfl rfl ?_
      refine gx_ld (i := 0) (d := 2) (v := gx_r 383) rfl (fun _ => rfl) h0 rfl rfl ?_
      refine gx_get rfl g102 rfl k4 rfl ?_
      refine gx_ap rfl (fun _ => rfl) g102 rfl rfl rfl (show nn < 1002 from by omega) (gx_run1 (show nn < 1002 from by omega)) (ai_in_h (by first | decide | omega) (by first | decide | omega) (by first | decide | omega)) rfl (fun t106 g106 k106 e106 => ?_)
      have k7 : ai_hv t106 383 3 = some (.inl m) := (e106 383 3 (by first | decide | omega)).trans k4
      have k8 : ai_hv t106 383 2 = some (.inl 0) := (e106 383 2 (by first | decide | omega)).trans k5
      have k9 : ai_hv t106 385 nn = some (.inl 0) := (e106 385 nn (by first | decide | omega)).trans k102
      refine gx_ld (i := 0) (d := 2) (v := gx_r 383) rfl (fun _ => rfl) h0 rfl rfl ?_
      refine ex_go (S := (298, cl, [.inl 0, gx_r 383], t106, n, 0)) rfl (fun _ => rfl) rfl ?_
      refine gx_put rfl g106 rfl rfl (ai_in_h (by first | decide | omega) (by first | decide | omega) (by first | decide | omega)) rfl (fun t110 g110 k110 e110 => ?_)
      have k11 : ai_hv t110 383 3 = some (.inl m) := (e110 383 3 (by first | decide | omega)).trans k7
      have k12 : ai_hv t110 383 2 = some (.inl 0) := (e110 383 2 (by first | decide | omega)).trans k8
      have k13 : ai_hv t110 385 nn = some (.inl 0) := (e110 385 nn (by first | decide | omega)).trans k9
      have k14 : ai_hv t110 386 nn = some (.inl m) := (e110 386 nn (by first | decide | omega)).trans k106
      refine gx_ld (i := 0) (d := 2) (v := gx_r 383) rfl (fun _ => rfl) h0 rfl rfl ?_
      refine ex_go (S := (303, cl, [.inl 0, gx_r 383], t110, n, 0)) rfl (fun _ => rfl) rfl ?_
      refine gx_put rfl g110 rfl rfl (ai_in_h (by first | decide | omega) (by first | decide | omega) (by first | decide | omega)) rfl (fun t115 g115 k115 e115 => ?_)
      have k16 : ai_hv t115 383 3 = some (.inl m) := (e115 383 3 (by first | decide | omega)).trans k11
      have k17 : ai_hv t115 383 2 = some (.inl 0) := (e115 383 2 (by first | decide | omega)).trans k12
      have k18 : ai_hv t115 385 nn = some (.inl 0) := (e115 385 nn (by first | decide | omega)).trans k13
      have k19 : ai_hv t115 386 nn = some (.inl m) := (e115 386 nn (by first | decide | omega)).trans k14
      have k20 : ai_hv t115 383 7 = some (.inl 0) := (e115 383 7 (by first | decide | omega)).trans k110
      refine ex_ret (r := (none, t115, n, 0)) rfl (fun _ => rfl) ?_
      have hend : sp_st S m nn = m := by
        rw [← hx, show k = m by omega]
        exact sp_rn_end S sp_bl (Nat.le_refl _)
      exact ⟨_, rfl, t115, rfl, ⟨g115, k20, k115, by omega, by omega⟩, k17, (fun c i h => (e115 c i (by first | decide | omega)).trans ((e110 c i (by first | decide | omega)).trans ((e106 c i (by first | decide | omega)).trans ((e102 c i (by first | decide | omega)).trans (e0 c i h))))), nn, by omega, tR_keep hT (fun c i h h9 => (e115 c i (by first | decide | omega)).trans ((e110 c i (by first | decide | omega)).trans ((e106 c i (by first | decide | omega)).trans (e102 c i (by first | decide | omega))))), hend, k18, k19⟩
    · refine gx_2f (c := .ge) rfl (by first | decide | omega) (by first | decide | omega) hc1 rfl ?_
      refine gx_ld (i := 0) (d := 2) (v := gx_r 383) rfl (fun _ => rfl) h0 rfl rfl ?_
      refine gx_ref (c := 384) rfl g0 rfl rfl rfl rfl ?_
      refine gx_ld (i := 2) (d := 0) (v := .inl k) rfl (fun _ => rfl) h2 rfl rfl ?_
      have k21 := (hS (k) (by first | decide | omega)).1
      have k21b := (hS (k) (by first | decide | omega)).2
      refine gx_ag (v := .inl (S k)) (cb := fun c => Nat.beq c 0) rfl (fun _ => rfl) g0 rfl rfl k21 (by first | decide | omega) rfl ?_
      refine gx_sto (i := 3) (d := 0) rfl (fun _ => rfl) rfl rfl (fun l22 hl22 ml22 => ?_)
      have l22_0 : en_ld l22 0 = some (gx_r 383) := ml22 0 _ h0 rfl
      have l22_1 : en_ld l22 1 = some (.inl nn) := ml22 1 _ h1 rfl
      have l22_2 : en_ld l22 2 = some (.inl k) := ml22 2 _ h2 rfl
      refine gx_ld (i := 3) (d := 0) (v := .inl (S k)) rfl (fun _ => rfl) hl22 rfl rfl ?_
      refine ex_go (S := (35, l22, [.inl 10, .inl (S k)], t0, n, 0)) rfl (fun _ => rfl) rfl ?_
      by_cases hc23 : S k = 10
      · refine gx_2t (c := .eq) rfl (by first | decide | omega) (by first | decide | omega) hc23 rfl ?_
        refine gx_incS (i := 2) (a := k) (x := 1) rfl (fun _ => rfl) l22_2 (by first | decide | omega) rfl (fun l24 hl24 ml24 => ?_)
        have l24_0 : en_ld l24 0 = some (gx_r 383) := ml24 0 _ l22_0 rfl
        have l24_1 : en_ld l24 1 = some (.inl nn) := ml24 1 _ l22_1 rfl
        have l24_3 : en_ld l24 3 = some (.inl (S k)) := ml24 3 _ hl22 rfl
        refine ex_go (S := (17, l24, [], t0, n, 0)) rfl (fun _ => rfl) rfl ?_
        have hb : sp_bl (S k) = true := sp_bl_iff.mpr (by first | decide | omega)
        exact ih _ _ _ t0 (by first | decide | omega) (by first | decide | omega) (by first | decide | omega) g0 km kt (fun c i h => e0 c i h) ((sp_rn_t (by first | decide | omega) hb).symm.trans hx) hT l24_0 l24_1 hl24
      · refine gx_2f (c := .eq) rfl (by first | decide | omega) (by first | decide | omega) hc23 rfl ?_
        refine gx_ld (i := 3) (d := 0) (v := .inl (S k)) rfl (fun _ => rfl) hl22 rfl rfl ?_
        refine ex_go (S := (41, l22, [.inl 32, .inl (S k)], t0, n, 0)) rfl (fun _ => rfl) rfl ?_
        by_cases hc25 : S k ≠ 32
        · refine gx_2t (c := .ne) rfl (by first | decide | omega) (by first | decide | omega) hc25 rfl ?_
          refine gx_ld (i := 2) (d := 0) (v := .inl k) rfl (fun _ => rfl) l22_2 rfl rfl ?_
          refine gx_sto (i := 4) (d := 0) rfl (fun _ => rfl) rfl rfl (fun l26 hl26 ml26 => ?_)
          have l26_0 : en_ld l26 0 = some (gx_r 383) := ml26 0 _ l22_0 rfl
          have l26_1 : en_ld l26 1 = some (.inl nn) := ml26 1 _ l22_1 rfl
          have l26_2 : en_ld l26 2 = some (.inl k) := ml26 2 _ l22_2 rfl
          have l26_3 : en_ld l26 3 = some (.inl (S k)) := ml26 3 _ hl22 rfl
          refine ex_go (S := (54, l26, [.inr (.inl 0)], t0, n, 0)) rfl (fun _ => rfl) rfl ?_
          refine gx_sto (i := 5) (d := 1) rfl (fun _ => rfl) rfl rfl (fun l27 hl27 ml27 => ?_)
          have l27_0 : en_ld l27 0 = some (gx_r 383) := ml27 0 _ l26_0 rfl
          have l27_1 : en_ld l27 1 = some (.inl nn) := ml27 1 _ l26_1 rfl
          have l27_2 : en_ld l27 2 = some (.inl k) := ml27 2 _ l26_2 rfl
          have l27_3 : en_ld l27 3 = some (.inl (S k)) := ml27 3 _ l26_3 rfl
          have l27_4 : en_ld l27 4 = some (.inl k) := ml27 4 _ hl26 rfl
          refine gx_ld (i := 0) (d := 2) (v := gx_r 383) rfl (fun _ => rfl) l27_0 rfl rfl ?_
          refine gx_ref (c := 386) rfl g0 rfl rfl rfl rfl ?_
          refine gx_ld (i := 1) (d := 0) (v := .inl nn) rfl (fun _ => rfl) l27_1 rfl rfl ?_
          refine gx_ld (i := 2) (d := 0) (v := .inl k) rfl (fun _ => rfl) l27_2 rfl rfl ?_
          refine gx_ap rfl (fun _ => rfl) g0 rfl rfl rfl (show nn < 1002 from by omega) (gx_run1 (show nn < 1002 from by omega)) (ai_in_h (by first | decide | omega) (by first | decide | omega) (by first | decide | omega)) rfl (fun t128 g128 k128 e128 => ?_)
          have k29 : ai_hv t128 383 3 = some (.inl m) := (e128 383 3 (by first | decide | omega)).trans km
          have k30 : ai_hv t128 383 2 = some (.inl 0) := (e128 383 2 (by first | decide | omega)).trans kt
          have k31 : ai_hv t128 384 k = some (.inl (S k)) := (e128 384 k (by first | decide | omega)).trans k21
          refine gx_ld (i := 3) (d := 0) (v := .inl (S k)) rfl (fun _ => rfl) l27_3 rfl rfl ?_
          obtain ⟨_, r32, b33, rfl, q34⟩ := pk_isLetter (d + 1) n (t0 := t128) (x := S k) (by first | decide | omega)
          refine ex_stat rfl rfl rfl rfl rfl r32 (Nat.le_refl _) rfl ?_
          show en_ex _ _ _ _ (67, l27, [.inl b33], t128, n, 0) _
          by_cases hc35 : b33 = 0
          · refine gx_1t (c := .eq) rfl (by first | decide | omega) hc35 rfl ?_
            refine gx_ld (i := 3) (d := 0) (v := .inl (S k)) rfl (fun _ => rfl) l27_3 rfl rfl ?_
            obtain ⟨_, r36, b37, rfl, q38⟩ := pk_isDigit (d + 1) n (t0 := t128) (x := S k) (by first | decide | omega)
            refine ex_stat rfl rfl rfl rfl rfl r36 (Nat.le_refl _) rfl ?_
            show en_ex _ _ _ _ (156, l27, [.inl b37], t128, n, 0) _
            by_cases hc39 : b37 = 0
            · refine gx_1t (c := .eq) rfl (by first | decide | omega) hc39 rfl ?_
              have hst : sp_st S m nn = k := hx.symm.trans (sp_rn_f (sp_no (fun z => by have := sp_bl_iff.mp z; omega)))
              have hle : sp_le (S k) = false := sp_no (fun z => by have := sp_le_iff.mp z; omega)
              have hdi : sp_di (S k) = false := sp_no (fun z => by have := sp_di_iff.mp z; omega)
              refine gx_ld (i := 3) (d := 0) (v := .inl (S k)) rfl (fun _ => rfl) l27_3 rfl rfl ?_
              refine ex_go (S := (242, l27, [.inr (.inl ((nI (S k)).toInt64.toBitVec.toNat))], t128, n, 0)) rfl (fun _ => rfl) rfl ?_
              rw [sp_i2l (by first | decide | omega)]
              refine gx_sto (i := 5) (d := 1) rfl (fun _ => rfl) rfl rfl (fun l40 hl40 ml40 => ?_)
              have l40_0 : en_ld l40 0 = some (gx_r 383) := ml40 0 _ l27_0 rfl
              have l40_1 : en_ld l40 1 = some (.inl nn) := ml40 1 _ l27_1 rfl
              have l40_2 : en_ld l40 2 = some (.inl k) := ml40 2 _ l27_2 rfl
              have l40_3 : en_ld l40 3 = some (.inl (S k)) := ml40 3 _ l27_3 rfl
              have l40_4 : en_ld l40 4 = some (.inl k) := ml40 4 _ l27_4 rfl
              refine gx_ld (i := 0) (d := 2) (v := gx_r 383) rfl (fun _ => rfl) l40_0 rfl rfl ?_
              refine gx_ref (c := 385) rfl g128 rfl rfl rfl rfl ?_
              refine gx_ld (i := 1) (d := 0) (v := .inl nn) rfl (fun _ => rfl) l40_1 rfl rfl ?_
              refine gx_ld (i := 3) (d := 0) (v := .inl (S k)) rfl (fun _ => rfl) l40_3 rfl rfl ?_
              obtain ⟨_, r41, b42, rfl, q43⟩ := pk_isSignOfx (d + 1) n (t0 := t128) (x := S k) (by first | decide | omega)
              refine ex_stat rfl rfl rfl rfl rfl r41 (Nat.le_refl _) rfl ?_
              show en_ex _ _ _ _ (253, l40, [.inl b42, .inl nn, gx_r 385], t128, n, 0) _
              by_cases hc44 : b42 = 0
              · refine gx_1t (c := .eq) rfl (by first | decide | omega) hc44 rfl ?_
                refine ex_go (S := (261, l40, [.inl 4, .inl nn, gx_r 385], t128, n, 0)) rfl (fun _ => rfl) rfl ?_
                refine gx_ap rfl (fun _ => rfl) g128 rfl rfl rfl (show nn < 1002 from by omega) (gx_run1 (show nn < 1000 from by omega)) (ai_in_h (by first | decide | omega) (by first | decide | omega) (by first | decide | omega)) rfl (fun t145 g145 k145 e145 => ?_)
                have k46 : ai_hv t145 383 3 = some (.inl m) := (e145 383 3 (by first | decide | omega)).trans k29
                have k47 : ai_hv t145 383 2 = some (.inl 0) := (e145 383 2 (by first | decide | omega)).trans k30
                have k48 : ai_hv t145 384 k = some (.inl (S k)) := (e145 384 k (by first | decide | omega)).trans k31
                have k49 : ai_hv t145 386 nn = some (.inl k) := (e145 386 nn (by first | decide | omega)).trans k128
                refine gx_incS (i := 2) (a := k) (x := 1) rfl (fun _ => rfl) l40_2 (by first | decide | omega) rfl (fun l50 hl50 ml50 => ?_)
                have l50_0 : en_ld l50 0 = some (gx_r 383) := ml50 0 _ l40_0 rfl
                have l50_1 : en_ld l50 1 = some (.inl nn) := ml50 1 _ l40_1 rfl
                have l50_3 : en_ld l50 3 = some (.inl (S k)) := ml50 3 _ l40_3 rfl
                have l50_4 : en_ld l50 4 = some (.inl k) := ml50 4 _ l40_4 rfl
                have l50_5 : en_ld l50 5 = some (.inr (.inl (S k))) := ml50 5 _ hl40 rfl
                refine gx_ld (i := 0) (d := 2) (v := gx_r 383) rfl (fun _ => rfl) l50_0 rfl rfl ?_
                refine gx_ref (c := 387) rfl g145 rfl rfl rfl rfl ?_
                refine gx_ld (i := 1) (d := 0) (v := .inl nn) rfl (fun _ => rfl) l50_1 rfl rfl ?_
                refine gx_ld (i := 5) (d := 1) (v := .inr (.inl (S k))) rfl (fun _ => rfl) l50_5 rfl rfl ?_
                refine gx_apv (d := 1) rfl (fun _ => rfl) g145 rfl rfl rfl (show nn < 1002 from by omega) (gx_lrun_387 nn (by first | decide | omega)) ⟨_, rfl⟩ rfl (fun t151 g151 k151 e151 => ?_)
                have k52 : ai_hv t151 383 3 = some (.inl m) := (e151 383 3 (by first | decide | omega)).trans k46
                have k53 : ai_hv t151 383 2 = some (.inl 0) := (e151 383 2 (by first | decide | omega)).trans k47
                have k54 : ai_hv t151 384 k = some (.inl (S k)) := (e151 384 k (by first | decide | omega)).trans k48
                have k55 : ai_hv t151 386 nn = some (.inl k) := (e151 386 nn (by first | decide | omega)).trans k49
                have k56 : ai_hv t151 385 nn = some (.inl 4) := (e151 385 nn (by first | decide | omega)).trans k145
                refine gx_incS (i := 1) (a := nn) (x := 1) rfl (fun _ => rfl) l50_1 (by first | decide | omega) rfl (fun l57 hl57 ml57 => ?_)
                have l57_0 : en_ld l57 0 = some (gx_r 383) := ml57 0 _ l50_0 rfl
                have l57_3 : en_ld l57 3 = some (.inl (S k)) := ml57 3 _ l50_3 rfl
                have l57_4 : en_ld l57 4 = some (.inl k) := ml57 4 _ l50_4 rfl
                have l57_5 : en_ld l57 5 = some (.inr (.inl (S k))) := ml57 5 _ l50_5 rfl
                have l57_2 : en_ld l57 2 = some (.inl (k + 1)) := ml57 2 _ hl50 rfl
                refine ex_go (S := (17, l57, [], t151, n, 0)) rfl (fun _ => rfl) rfl ?_
                have hnx : sp_nx S m (k + 1) = sp_st S m (nn + 1) := by
                  show _ = sp_nx S m (sp_te S m (sp_st S m nn))
                  rw [hst, sp_te_s hle hdi]
                have hT2 : tR t151 S m (nn + 1) := tR_next hT hst (by first | decide | omega) (fun c i h h9 => (e151 c i (by first | decide | omega)).trans ((e145 c i (by first | decide | omega)).trans (e128 c i (by first | decide | omega)))) (by rw [sp_ty_s4 hle hdi (sp_no (fun z => by have := sp_si_iff.mp z; omega))]; exact k56) k55 (by rw [sp_vR_s hle hdi]; exact k151)
                exact ih _ _ _ t151 (by first | decide | omega) (by first | decide | omega) (by first | decide | omega) g151 k52 k53 (fun c i h => (e151 c i (by first | decide | omega)).trans ((e145 c i (by first | decide | omega)).trans ((e128 c i (by first | decide | omega)).trans (e0 c i h)))) hnx hT2 l57_0 hl57 l57_2
              · refine gx_1f (c := .eq) rfl (by first | decide | omega) hc44 rfl ?_
                refine ex_go (S := (257, l40, [.inl 3, .inl nn, gx_r 385], t128, n, 0)) rfl (fun _ => rfl) rfl ?_
                refine ex_go (S := (261, l40, [.inl 3, .inl nn, gx_r 385], t128, n, 0)) rfl (fun _ => rfl) rfl ?_
                refine gx_ap rfl (fun _ => rfl) g128 rfl rfl rfl (show nn < 1002 from by omega) (gx_run1 (show nn < 1000 from by omega)) (ai_in_h (by first | decide | omega) (by first | decide | omega) (by first | decide | omega)) rfl (fun t158 g158 k158 e158 => ?_)
                have k59 : ai_hv t158 383 3 = some (.inl m) := (e158 383 3 (by first | decide | omega)).trans k29
                have k60 : ai_hv t158 383 2 = some (.inl 0) := (e158 383 2 (by first | decide | omega)).trans k30
                have k61 : ai_hv t158 384 k = some (.inl (S k)) := (e158 384 k (by first | decide | omega)).trans k31
                have k62 : ai_hv t158 386 nn = some (.inl k) := (e158 386 nn (by first | decide | omega)).trans k128
                refine gx_incS (i := 2) (a := k) (x := 1) rfl (fun _ => rfl) l40_2 (by first | decide | omega) rfl (fun l63 hl63 ml63 => ?_)
                have l63_0 : en_ld l63 0 = some (gx_r 383) := ml63 0 _ l40_0 rfl
                have l63_1 : en_ld l63 1 = some (.inl nn) := ml63 1 _ l40_1 rfl
                have l63_3 : en_ld l63 3 = some (.inl (S k)) := ml63 3 _ l40_3 rfl
                have l63_4 : en_ld l63 4 = some (.inl k) := ml63 4 _ l40_4 rfl
                have l63_5 : en_ld l63 5 = some (.inr (.inl (S k))) := ml63 5 _ hl40 rfl
                refine gx_ld (i := 0) (d := 2) (v := gx_r 383) rfl (fun _ => rfl) l63_0 rfl rfl ?_
                refine gx_ref (c := 387) rfl g158 rfl rfl rfl rfl ?_
                refine gx_ld (i := 1) (d := 0) (v := .inl nn) rfl (fun _ => rfl) l63_1 rfl rfl ?_
                refine gx_ld (i := 5) (d := 1) (v := .inr (.inl (S k))) rfl (fun _ => rfl) l63_5 rfl rfl ?_
                refine gx_apv (d := 1) rfl (fun _ => rfl) g158 rfl rfl rfl (show nn < 1002 from by omega) (gx_lrun_387 nn (by first | decide | omega)) ⟨_, rfl⟩ rfl (fun t164 g164 k164 e164 => ?_)
                have k65 : ai_hv t164 383 3 = some (.inl m) := (e164 383 3 (by first | decide | omega)).trans k59
                have k66 : ai_hv t164 383 2 = some (.inl 0) := (e164 383 2 (by first | decide | omega)).trans k60
                have k67 : ai_hv t164 384 k = some (.inl (S k)) := (e164 384 k (by first | decide | omega)).trans k61
                have k68 : ai_hv t164 386 nn = some (.inl k) := (e164 386 nn (by first | decide | omega)).trans k62
                have k69 : ai_hv t164 385 nn = some (.inl 3) := (e164 385 nn (by first | decide | omega)).trans k158
                refine gx_incS (i := 1) (a := nn) (x := 1) rfl (fun _ => rfl) l63_1 (by first | decide | omega) rfl (fun l70 hl70 ml70 => ?_)
                have l70_0 : en_ld l70 0 = some (gx_r 383) := ml70 0 _ l63_0 rfl
                have l70_3 : en_ld l70 3 = some (.inl (S k)) := ml70 3 _ l63_3 rfl
                have l70_4 : en_ld l70 4 = some (.inl k) := ml70 4 _ l63_4 rfl
                have l70_5 : en_ld l70 5 = some (.inr (.inl (S k))) := ml70 5 _ l63_5 rfl
                have l70_2 : en_ld l70 2 = some (.inl (k + 1)) := ml70 2 _ hl63 rfl
                refine ex_go (S := (17, l70, [], t164, n, 0)) rfl (fun _ => rfl) rfl ?_
                have hnx : sp_nx S m (k + 1) = sp_st S m (nn + 1) := by
                  show _ = sp_nx S m (sp_te S m (sp_st S m nn))
                  rw [hst, sp_te_s hle hdi]
                have hT2 : tR t164 S m (nn + 1) := tR_next hT hst (by first | decide | omega) (fun c i h h9 => (e164 c i (by first | decide | omega)).trans ((e158 c i (by first | decide | omega)).trans (e128 c i (by first | decide | omega)))) (by rw [sp_ty_s3 hle hdi (sp_si_iff.mpr (by first | decide | omega))]; exact k69) k68 (by rw [sp_vR_s hle hdi]; exact k164)
                exact ih _ _ _ t164 (by first | decide | omega) (by first | decide | omega) (by first | decide | omega) g164 k65 k66 (fun c i h => (e164 c i (by first | decide | omega)).trans ((e158 c i (by first | decide | omega)).trans ((e128 c i (by first | decide | omega)).trans (e0 c i h)))) hnx hT2 l70_0 hl70 l70_2
            · refine gx_1f (c := .eq) rfl (by first | decide | omega) hc39 rfl ?_
              have hst : sp_st S m nn = k := hx.symm.trans (sp_rn_f (sp_no (fun z => by have := sp_bl_iff.mp z; omega)))
              have hle : sp_le (S k) = false := sp_no (fun z => by have := sp_le_iff.mp z; omega)
              have hdi : sp_di (S k) = true := sp_di_iff.mpr (by first | decide | omega)
              have hte := sp_te_gt (S := S) (len := m) (p := k) (by first | decide | omega)
              rw [sp_te_d hle hdi] at hte
              have hS9 : ∀ i, i < m → ai_hv t128 384 i = some (.inl (S i)) ∧ S i ≤ 255 := fun i hi => ⟨(e128 384 i (by first | decide | omega)).trans ((hS i hi).1), (hS i hi).2⟩
              refine cx_dig d n (S := S) (fr := k) g128 k29 hm hS9 (fun l72 h0z71 h1z71 h2z71 h4z71 h5z71 => ?_) (m - k) k 0 _ (by first | decide | omega) (by first | decide | omega) rfl (fun i z1 z2 => by omega) (by rw [Nat.sub_self]; rfl) l27_0 l27_1 l27_2 l27_4 hl27
              refine gx_ld (i := 0) (d := 2) (v := gx_r 383) rfl (fun _ => rfl) h0z71 rfl rfl ?_
              refine gx_ref (c := 385) rfl g128 rfl rfl rfl rfl ?_
              refine gx_ld (i := 1) (d := 0) (v := .inl nn) rfl (fun _ => rfl) h1z71 rfl rfl ?_
              refine gx_ld (i := 2) (d := 0) (v := .inl (sp_rn S sp_di m k)) rfl (fun _ => rfl) h2z71 rfl rfl ?_
              refine gx_ld (i := 4) (d := 0) (v := .inl k) rfl (fun _ => rfl) h4z71 rfl rfl ?_
              refine gx_isub rfl (by first | decide | omega) (by first | decide | omega) rfl ?_
              refine ex_go (S := (228, l72, [.inl 4, .inl ((sp_rn S sp_di m k) - k), .inl nn, gx_r 385], t128, n, 0)) rfl (fun _ => rfl) rfl ?_
              by_cases hc73 : (sp_rn S sp_di m k) - k ≤ 4
              · refine gx_2t (c := .le) rfl (by first | decide | omega) (by first | decide | omega) hc73 rfl ?_
                refine ex_go (S := (236, l72, [.inl 2, .inl nn, gx_r 385], t128, n, 0)) rfl (fun _ => rfl) rfl ?_
                refine gx_ap rfl (fun _ => rfl) g128 rfl rfl rfl (show nn < 1002 from by omega) (gx_run1 (show nn < 1000 from by omega)) (ai_in_h (by first | decide | omega) (by first | decide | omega) (by first | decide | omega)) rfl (fun t174 g174 k174 e174 => ?_)
                have k75 : ai_hv t174 383 3 = some (.inl m) := (e174 383 3 (by first | decide | omega)).trans k29
                have k76 : ai_hv t174 383 2 = some (.inl 0) := (e174 383 2 (by first | decide | omega)).trans k30
                have k77 : ai_hv t174 384 k = some (.inl (S k)) := (e174 384 k (by first | decide | omega)).trans k31
                have k78 : ai_hv t174 386 nn = some (.inl k) := (e174 386 nn (by first | decide | omega)).trans k128
                refine ex_go (S := (265, l72, [], t174, n, 0)) rfl (fun _ => rfl) rfl ?_
                refine gx_ld (i := 0) (d := 2) (v := gx_r 383) rfl (fun _ => rfl) h0z71 rfl rfl ?_
                refine gx_ref (c := 387) rfl g174 rfl rfl rfl rfl ?_
                refine gx_ld (i := 1) (d := 0) (v := .inl nn) rfl (fun _ => rfl) h1z71 rfl rfl ?_
                refine gx_ld (i := 5) (d := 1) (v := .inr (.inl (sp_hv S k 10 48 (min (sp_rn S sp_di m k - k) 4)))) rfl (fun _ => rfl) h5z71 rfl rfl ?_
                refine gx_apv (d := 1) rfl (fun _ => rfl) g174 rfl rfl rfl (show nn < 1002 from by omega) (gx_lrun_387 nn (by first | decide | omega)) ⟨_, rfl⟩ rfl (fun t179 g179 k179 e179 => ?_)
                have k80 : ai_hv t179 383 3 = some (.inl m) := (e179 383 3 (by first | decide | omega)).trans k75
                have k81 : ai_hv t179 383 2 = some (.inl 0) := (e179 383 2 (by first | decide | omega)).trans k76
                have k82 : ai_hv t179 384 k = some (.inl (S k)) := (e179 384 k (by first | decide | omega)).trans k77
                have k83 : ai_hv t179 386 nn = some (.inl k) := (e179 386 nn (by first | decide | omega)).trans k78
                have k84 : ai_hv t179 385 nn = some (.inl 2) := (e179 385 nn (by first | decide | omega)).trans k174
                refine gx_incS (i := 1) (a := nn) (x := 1) rfl (fun _ => rfl) h1z71 (by first | decide | omega) rfl (fun l85 hl85 ml85 => ?_)
                have l85_0 : en_ld l85 0 = some (gx_r 383) := ml85 0 _ h0z71 rfl
                have l85_2 : en_ld l85 2 = some (.inl (sp_rn S sp_di m k)) := ml85 2 _ h2z71 rfl
                have l85_4 : en_ld l85 4 = some (.inl k) := ml85 4 _ h4z71 rfl
                have l85_5 : en_ld l85 5 = some (.inr (.inl (sp_hv S k 10 48 (min (sp_rn S sp_di m k - k) 4)))) := ml85 5 _ h5z71 rfl
                refine ex_go (S := (17, l85, [], t179, n, 0)) rfl (fun _ => rfl) rfl ?_
                have hnx : sp_nx S m (sp_rn S sp_di m k) = sp_st S m (nn + 1) := by
                  show _ = sp_nx S m (sp_te S m (sp_st S m nn))
                  rw [hst, sp_te_d hle hdi]
                have hT2 : tR t179 S m (nn + 1) := tR_next hT hst (by first | decide | omega) (fun c i h h9 => (e179 c i (by first | decide | omega)).trans ((e174 c i (by first | decide | omega)).trans (e128 c i (by first | decide | omega)))) (by rw [sp_ty_d1 hle hdi (by first | decide | omega)]; exact k84) k83 (by rw [sp_vR_d hle hdi]; exact k179)
                exact ih _ _ _ t179 (by first | decide | omega) (by first | decide | omega) (by first | decide | omega) g179 k80 k81 (fun c i h => (e179 c i (by first | decide | omega)).trans ((e174 c i (by first | decide | omega)).trans ((e128 c i (by first | decide | omega)).trans (e0 c i h)))) hnx hT2 l85_0 hl85 l85_2
              · refine gx_2f (c := .le) rfl (by first | decide | omega) (by first | decide | omega) hc73 rfl ?_
                refine ex_go (S := (232, l72, [.inl 4, .inl nn, gx_r 385], t128, n, 0)) rfl (fun _ => rfl) rfl ?_
                refine ex_go (S := (236, l72, [.inl 4, .inl nn, gx_r 385], t128, n, 0)) rfl (fun _ => rfl) rfl ?_
                refine gx_ap rfl (fun _ => rfl) g128 rfl rfl rfl (show nn < 1002 from by omega) (gx_run1 (show nn < 1000 from by omega)) (ai_in_h (by first | decide | omega) (by first | decide | omega) (by first | decide | omega)) rfl (fun t186 g186 k186 e186 => ?_)
                have k87 : ai_hv t186 383 3 = some (.inl m) := (e186 383 3 (by first | decide | omega)).trans k29
                have k88 : ai_hv t186 383 2 = some (.inl 0) := (e186 383 2 (by first | decide | omega)).trans k30
                have k89 : ai_hv t186 384 k = some (.inl (S k)) := (e186 384 k (by first | decide | omega)).trans k31
                have k90 : ai_hv t186 386 nn = some (.inl k) := (e186 386 nn (by first | decide | omega)).trans k128
                refine ex_go (S := (265, l72, [], t186, n, 0)) rfl (fun _ => rfl) rfl ?_
                refine gx_ld (i := 0) (d := 2) (v := gx_r 383) rfl (fun _ => rfl) h0z71 rfl rfl ?_
                refine gx_ref (c := 387) rfl g186 rfl rfl rfl rfl ?_
                refine gx_ld (i := 1) (d := 0) (v := .inl nn) rfl (fun _ => rfl) h1z71 rfl rfl ?_
                refine gx_ld (i := 5) (d := 1) (v := .inr (.inl (sp_hv S k 10 48 (min (sp_rn S sp_di m k - k) 4)))) rfl (fun _ => rfl) h5z71 rfl rfl ?_
                refine gx_apv (d := 1) rfl (fun _ => rfl) g186 rfl rfl rfl (show nn < 1002 from by omega) (gx_lrun_387 nn (by first | decide | omega)) ⟨_, rfl⟩ rfl (fun t191 g191 k191 e191 => ?_)
                have k92 : ai_hv t191 383 3 = some (.inl m) := (e191 383 3 (by first | decide | omega)).trans k87
                have k93 : ai_hv t191 383 2 = some (.inl 0) := (e191 383 2 (by first | decide | omega)).trans k88
                have k94 : ai_hv t191 384 k = some (.inl (S k)) := (e191 384 k (by first | decide | omega)).trans k89
                have k95 : ai_hv t191 386 nn = some (.inl k) := (e191 386 nn (by first | decide | omega)).trans k90
                have k96 : ai_hv t191 385 nn = some (.inl 4) := (e191 385 nn (by first | decide | omega)).trans k186
                refine gx_incS (i := 1) (a := nn) (x := 1) rfl (fun _ => rfl) h1z71 (by first | decide | omega) rfl (fun l97 hl97 ml97 => ?_)
                have l97_0 : en_ld l97 0 = some (gx_r 383) := ml97 0 _ h0z71 rfl
                have l97_2 : en_ld l97 2 = some (.inl (sp_rn S sp_di m k)) := ml97 2 _ h2z71 rfl
                have l97_4 : en_ld l97 4 = some (.inl k) := ml97 4 _ h4z71 rfl
                have l97_5 : en_ld l97 5 = some (.inr (.inl (sp_hv S k 10 48 (min (sp_rn S sp_di m k - k) 4)))) := ml97 5 _ h5z71 rfl
                refine ex_go (S := (17, l97, [], t191, n, 0)) rfl (fun _ => rfl) rfl ?_
                have hnx : sp_nx S m (sp_rn S sp_di m k) = sp_st S m (nn + 1) := by
                  show _ = sp_nx S m (sp_te S m (sp_st S m nn))
                  rw [hst, sp_te_d hle hdi]
                have hT2 : tR t191 S m (nn + 1) := tR_next hT hst (by first | decide | omega) (fun c i h h9 => (e191 c i (by first | decide | omega)).trans ((e186 c i (by first | decide | omega)).trans (e128 c i (by first | decide | omega)))) (by rw [sp_ty_d4 hle hdi (by first | decide | omega)]; exact k96) k95 (by rw [sp_vR_d hle hdi]; exact k191)
                exact ih _ _ _ t191 (by first | decide | omega) (by first | decide | omega) (by first | decide | omega) g191 k92 k93 (fun c i h => (e191 c i (by first | decide | omega)).trans ((e186 c i (by first | decide | omega)).trans ((e128 c i (by first | decide | omega)).trans (e0 c i h)))) hnx hT2 l97_0 hl97 l97_2
          · refine gx_1f (c := .eq) rfl (by first | decide | omega) hc35 rfl ?_
            have hst : sp_st S m nn = k := hx.symm.trans (sp_rn_f (sp_no (fun z => by have := sp_bl_iff.mp z; omega)))
            have hle : sp_le (S k) = true := sp_le_iff.mpr (by first | decide | omega)
            have hte := sp_te_gt (S := S) (len := m) (p := k) (by first | decide | omega)
            rw [sp_te_l hle] at hte
            have hS9 : ∀ i, i < m → ai_hv t128 384 i = some (.inl (S i)) ∧ S i ≤ 255 := fun i hi => ⟨(e128 384 i (by first | decide | omega)).trans ((hS i hi).1), (hS i hi).2⟩
            refine cx_let d n (S := S) (fr := k) g128 k29 hm hS9 (fun l99 h0z98 h1z98 h2z98 h4z98 h5z98 => ?_) (m - k) k 0 _ (by first | decide | omega) (by first | decide | omega) rfl (fun i z1 z2 => by omega) (by rw [Nat.sub_self]; rfl) l27_0 l27_1 l27_2 l27_4 hl27
            refine gx_ld (i := 0) (d := 2) (v := gx_r 383) rfl (fun _ => rfl) h0z98 rfl rfl ?_
            refine gx_ref (c := 385) rfl g128 rfl rfl rfl rfl ?_
            refine gx_ld (i := 1) (d := 0) (v := .inl nn) rfl (fun _ => rfl) h1z98 rfl rfl ?_
            refine gx_ld (i := 2) (d := 0) (v := .inl (sp_rn S sp_le m k)) rfl (fun _ => rfl) h2z98 rfl rfl ?_
            refine gx_ld (i := 4) (d := 0) (v := .inl k) rfl (fun _ => rfl) h4z98 rfl rfl ?_
            refine gx_isub rfl (by first | decide | omega) (by first | decide | omega) rfl ?_
            refine ex_go (S := (140, l99, [.inl 8, .inl ((sp_rn S sp_le m k) - k), .inl nn, gx_r 385], t128, n, 0)) rfl (fun _ => rfl) rfl ?_
            by_cases hc100 : (sp_rn S sp_le m k) - k ≤ 8
            · refine gx_2t (c := .le) rfl (by first | decide | omega) (by first | decide | omega) hc100 rfl ?_
              refine ex_go (S := (148, l99, [.inl 1, .inl nn, gx_r 385], t128, n, 0)) rfl (fun _ => rfl) rfl ?_
              refine gx_ap rfl (fun _ => rfl) g128 rfl rfl rfl (show nn < 1002 from by omega) (gx_run1 (show nn < 1000 from by omega)) (ai_in_h (by first | decide | omega) (by first | decide | omega) (by first | decide | omega)) rfl (fun t201 g201 k201 e201 => ?_)
              have k102 : ai_hv t201 383 3 = some (.inl m) := (e201 383 3 (by first | decide | omega)).trans k29
              have k103 : ai_hv t201 383 2 = some (.inl 0) := (e201 383 2 (by first | decide | omega)).trans k30
              have k104 : ai_hv t201 384 k = some (.inl (S k)) := (e201 384 k (by first | decide | omega)).trans k31
              have k105 : ai_hv t201 386 nn = some (.inl k) := (e201 386 nn (by first | decide | omega)).trans k128
              refine ex_go (S := (265, l99, [], t201, n, 0)) rfl (fun _ => rfl) rfl ?_
              refine gx_ld (i := 0) (d := 2) (v := gx_r 383) rfl (fun _ => rfl) h0z98 rfl rfl ?_
              refine gx_ref (c := 387) rfl g201 rfl rfl rfl rfl ?_
              refine gx_ld (i := 1) (d := 0) (v := .inl nn) rfl (fun _ => rfl) h1z98 rfl rfl ?_
              refine gx_ld (i := 5) (d := 1) (v := .inr (.inl (sp_hv S k 37 96 (min (sp_rn S sp_le m k - k) 8)))) rfl (fun _ => rfl) h5z98 rfl rfl ?_
              refine gx_apv (d := 1) rfl (fun _ => rfl) g201 rfl rfl rfl (show nn < 1002 from by omega) (gx_lrun_387 nn (by first | decide | omega)) ⟨_, rfl⟩ rfl (fun t206 g206 k206 e206 => ?_)
              have k107 : ai_hv t206 383 3 = some (.inl m) := (e206 383 3 (by first | decide | omega)).trans k102
              have k108 : ai_hv t206 383 2 = some (.inl 0) := (e206 383 2 (by first | decide | omega)).trans k103
              have k109 : ai_hv t206 384 k = some (.inl (S k)) := (e206 384 k (by first | decide | omega)).trans k104
              have k110 : ai_hv t206 386 nn = some (.inl k) := (e206 386 nn (by first | decide | omega)).trans k105
              have k111 : ai_hv t206 385 nn = some (.inl 1) := (e206 385 nn (by first | decide | omega)).trans k201
              refine gx_incS (i := 1) (a := nn) (x := 1) rfl (fun _ => rfl) h1z98 (by first | decide | omega) rfl (fun l112 hl112 ml112 => ?_)
              have l112_0 : en_ld l112 0 = some (gx_r 383) := ml112 0 _ h0z98 rfl
              have l112_2 : en_ld l112 2 = some (.inl (sp_rn S sp_le m k)) := ml112 2 _ h2z98 rfl
              have l112_4 : en_ld l112 4 = some (.inl k) := ml112 4 _ h4z98 rfl
              have l112_5 : en_ld l112 5 = some (.inr (.inl (sp_hv S k 37 96 (min (sp_rn S sp_le m k - k) 8)))) := ml112 5 _ h5z98 rfl
              refine ex_go (S := (17, l112, [], t206, n, 0)) rfl (fun _ => rfl) rfl ?_
              have hnx : sp_nx S m (sp_rn S sp_le m k) = sp_st S m (nn + 1) := by
                show _ = sp_nx S m (sp_te S m (sp_st S m nn))
                rw [hst, sp_te_l hle]
              have hT2 : tR t206 S m (nn + 1) := tR_next hT hst (by first | decide | omega) (fun c i h h9 => (e206 c i (by first | decide | omega)).trans ((e201 c i (by first | decide | omega)).trans (e128 c i (by first | decide | omega)))) (by rw [sp_ty_l1 hle (by first | decide | omega)]; exact k111) k110 (by rw [sp_vR_l hle]; exact k206)
              exact ih _ _ _ t206 (by first | decide | omega) (by first | decide | omega) (by first | decide | omega) g206 k107 k108 (fun c i h => (e206 c i (by first | decide | omega)).trans ((e201 c i (by first | decide | omega)).trans ((e128 c i (by first | decide | omega)).trans (e0 c i h)))) hnx hT2 l112_0 hl112 l112_2
            · refine gx_2f (c := .le) rfl (by first | decide | omega) (by first | decide | omega) hc100 rfl ?_
              refine ex_go (S := (144, l99, [.inl 4, .inl nn, gx_r 385], t128, n, 0)) rfl (fun _ => rfl) rfl ?_
              refine ex_go (S := (148, l99, [.inl 4, .inl nn, gx_r 385], t128, n, 0)) rfl (fun _ => rfl) rfl ?_
              refine gx_ap rfl (fun _ => rfl) g128 rfl rfl rfl (show nn < 1002 from by omega) (gx_run1 (show nn < 1000 from by omega)) (ai_in_h (by first | decide | omega) (by first | decide | omega) (by first | decide | omega)) rfl (fun t213 g213 k213 e213 => ?_)
              have k114 : ai_hv t213 383 3 = some (.inl m) := (e213 383 3 (by first | decide | omega)).trans k29
              have k115 : ai_hv t213 383 2 = some (.inl 0) := (e213 383 2 (by first | decide | omega)).trans k30
              have k116 : ai_hv t213 384 k = some (.inl (S k)) := (e213 384 k (by first | decide | omega)).trans k31
              have k117 : ai_hv t213 386 nn = some (.inl k) := (e213 386 nn (by first | decide | omega)).trans k128
              refine ex_go (S := (265, l99, [], t213, n, 0)) rfl (fun _ => rfl) rfl ?_
              refine gx_ld (i := 0) (d := 2) (v := gx_r 383) rfl (fun _ => rfl) h0z98 rfl rfl ?_
              refine gx_ref (c := 387) rfl g213 rfl rfl rfl rfl ?_
              refine gx_ld (i := 1) (d := 0) (v := .inl nn) rfl (fun _ => rfl) h1z98 rfl rfl ?_
              refine gx_ld (i := 5) (d := 1) (v := .inr (.inl (sp_hv S k 37 96 (min (sp_rn S sp_le m k - k) 8)))) rfl (fun _ => rfl) h5z98 rfl rfl ?_
              refine gx_apv (d := 1) rfl (fun _ => rfl) g213 rfl rfl rfl (show nn < 1002 from by omega) (gx_lrun_387 nn (by first | decide | omega)) ⟨_, rfl⟩ rfl (fun t218 g218 k218 e218 => ?_)
              have k119 : ai_hv t218 383 3 = some (.inl m) := (e218 383 3 (by first | decide | omega)).trans k114
              have k120 : ai_hv t218 383 2 = some (.inl 0) := (e218 383 2 (by first | decide | omega)).trans k115
              have k121 : ai_hv t218 384 k = some (.inl (S k)) := (e218 384 k (by first | decide | omega)).trans k116
              have k122 : ai_hv t218 386 nn = some (.inl k) := (e218 386 nn (by first | decide | omega)).trans k117
              have k123 : ai_hv t218 385 nn = some (.inl 4) := (e218 385 nn (by first | decide | omega)).trans k213
              refine gx_incS (i := 1) (a := nn) (x := 1) rfl (fun _ => rfl) h1z98 (by first | decide | omega) rfl (fun l124 hl124 ml124 => ?_)
              have l124_0 : en_ld l124 0 = some (gx_r 383) := ml124 0 _ h0z98 rfl
              have l124_2 : en_ld l124 2 = some (.inl (sp_rn S sp_le m k)) := ml124 2 _ h2z98 rfl
              have l124_4 : en_ld l124 4 = some (.inl k) := ml124 4 _ h4z98 rfl
              have l124_5 : en_ld l124 5 = some (.inr (.inl (sp_hv S k 37 96 (min (sp_rn S sp_le m k - k) 8)))) := ml124 5 _ h5z98 rfl
              refine ex_go (S := (17, l124, [], t218, n, 0)) rfl (fun _ => rfl) rfl ?_
              have hnx : sp_nx S m (sp_rn S sp_le m k) = sp_st S m (nn + 1) := by
                show _ = sp_nx S m (sp_te S m (sp_st S m nn))
                rw [hst, sp_te_l hle]
              have hT2 : tR t218 S m (nn + 1) := tR_next hT hst (by first | decide | omega) (fun c i h h9 => (e218 c i (by first | decide | omega)).trans ((e213 c i (by first | decide | omega)).trans (e128 c i (by first | decide | omega)))) (by rw [sp_ty_l4 hle (by first | decide | omega)]; exact k123) k122 (by rw [sp_vR_l hle]; exact k218)
              exact ih _ _ _ t218 (by first | decide | omega) (by first | decide | omega) (by first | decide | omega) g218 k119 k120 (fun c i h => (e218 c i (by first | decide | omega)).trans ((e213 c i (by first | decide | omega)).trans ((e128 c i (by first | decide | omega)).trans (e0 c i h)))) hnx hT2 l124_0 hl124 l124_2
        · refine gx_2f (c := .ne) rfl (by first | decide | omega) (by first | decide | omega) hc25 rfl ?_
          refine gx_incS (i := 2) (a := k) (x := 1) rfl (fun _ => rfl) l22_2 (by first | decide | omega) rfl (fun l125 hl125 ml125 => ?_)
          have l125_0 : en_ld l125 0 = some (gx_r 383) := ml125 0 _ l22_0 rfl
          have l125_1 : en_ld l125 1 = some (.inl nn) := ml125 1 _ l22_1 rfl
          have l125_3 : en_ld l125 3 = some (.inl (S k)) := ml125 3 _ hl22 rfl
          refine ex_go (S := (17, l125, [], t0, n, 0)) rfl (fun _ => rfl) rfl ?_
          have hb : sp_bl (S k) = true := sp_bl_iff.mpr (by first | decide | omega)
          exact ih _ _ _ t0 (by first | decide | omega) (by first | decide | omega) (by first | decide | omega) g0 km kt (fun c i h => e0 c i h) ((sp_rn_t (by first | decide | omega) hb).symm.trans hx) hT l125_0 l125_1 hl125
end SPD
