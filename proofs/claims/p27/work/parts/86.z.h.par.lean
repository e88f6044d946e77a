section SPI
theorem tR_keep' {t t' : en_H} {S : Nat → Nat} {m N : Nat} (h : tR t S m N) (e : ∀ c i, c = 385 ∨ c = 386 ∨ c = 387 ∨ c = 388 → ai_hv t' c i = ai_hv t c i) : tR t' S m N := fun j hj => by
  obtain ⟨z1, z2, z3, z4⟩ := h j hj
  exact ⟨z1, (e 385 j (by first | decide | omega)).trans z2, (e 386 j (by first | decide | omega)).trans z3, (e 387 j (by first | decide | omega)).trans z4⟩
theorem wd_37_lt {w : Nat} (h : w < 42) : wd_37 w < 9223372036854775808 := by
  have h1 : (List.range 42).all (fun w => (wd_37 w < 9223372036854775808 : Bool)) = true := by decide +kernel
  have h2 := List.all_eq_true.mp h1 w (List.mem_range.mpr h)
  exact of_decide_eq_true h2
/-- the reference's tokens, all of them -/
noncomputable def rT (t : en_H) (S : Nat → Nat) (m N : Nat) : Prop := tR t S m N ∧ sp_st S m N = m ∧ ai_hv t 385 N = some (.inl 0) ∧ ai_hv t 386 N = some (.inl m) ∧ (N ≤ m ∧ m ≤ 1000) ∧ (∀ w, w < 42 → ai_hv t 388 w = some (.inr (.inl (wd_37 w)))) ∧ ∀ i, i < m → S i ≤ 127
theorem rT_keep {t t' : en_H} {S : Nat → Nat} {m N : Nat} (h : rT t S m N) (e : ∀ c i, c = 385 ∨ c = 386 ∨ c = 387 ∨ c = 388 → ai_hv t' c i = ai_hv t c i) : rT t' S m N :=
  ⟨tR_keep' h.1 e, h.2.1, (e _ _ (by first | decide | omega)).trans h.2.2.1, (e _ _ (by first | decide | omega)).trans h.2.2.2.1, h.2.2.2.2.1, fun w hw => (e _ _ (by first | decide | omega)).trans (h.2.2.2.2.2.1 w hw), h.2.2.2.2.2.2⟩
/-- the sort of the token a, 0 behind the last -/
noncomputable def sp_kt (S : Nat → Nat) (m N a : Nat) : Nat := if a < N then sp_ty S m (sp_st S m a) else 0
theorem sp_ty_le (S : Nat → Nat) (m p : Nat) : 1 ≤ sp_ty S m p ∧ sp_ty S m p ≤ 4 := by
  unfold sp_ty
  cases sp_le (S p) <;> cases sp_di (S p) <;> cases sp_si (S p) <;> cases Nat.ble (sp_rn S sp_le m p - p) 8 <;> cases Nat.ble (sp_rn S sp_di m p - p) 4 <;> decide
theorem rT_sort {t : en_H} {S : Nat → Nat} {m N a : Nat} (h : rT t S m N) (ha : a ≤ N) : ai_hv t 385 a = some (.inl (sp_kt S m N a)) := by
  unfold sp_kt
  by_cases c : a < N
  · rw [if_pos c]; exact (h.1 a c).2.1
  · rw [if_neg c, show a = N by omega]; exact h.2.2.1
theorem rT_place {t : en_H} {S : Nat → Nat} {m N a : Nat} (h : rT t S m N) (ha : a ≤ N) : ai_hv t 386 a = some (.inl (sp_st S m a)) ∧ sp_st S m a ≤ 1000 := by
  have := h.2.2.2.2.1
  by_cases c : a < N
  · have := (h.1 a c).1
    exact ⟨(h.1 a c).2.2.1, by omega⟩
  · rw [show a = N by omega, h.2.1]; exact ⟨h.2.2.2.1, by omega⟩
/-- the token a is the sign g -/
noncomputable def sp_sg (S : Nat → Nat) (m N a g : Nat) : Prop := a < N ∧ sp_ty S m (sp_st S m a) = 3 ∧ S (sp_st S m a) = g
/-- the token a is the word w -/
noncomputable def sp_wd (S : Nat → Nat) (m N a w : Nat) : Prop := a < N ∧ sp_ty S m (sp_st S m a) = 1 ∧ sp_hv S (sp_st S m a) 32 96 (sp_rn S sp_le m (sp_st S m a) - sp_st S m a) = wd_key w
theorem sp_lN {a : Nat} (h : a < 9223372036854775808) : (lN a).toInt = (a : Int) := by
  rw [← Int64.toInt_toBitVec, sp_lN_bv, BitVec.toInt_eq_toNat_cond, BitVec.toNat_ofNat, Nat.mod_eq_of_lt (by first | decide | omega), if_pos (by first | decide | omega)]
theorem sp_rf_all {S : Nat → Nat} {P : Nat → Bool} : ∀ f k j, k ≤ j → j < sp_rf S P f k → P (S j) = true
  | 0, k, j, h1, h2 => by
    have h2 : j < k := h2
    omega
  | f + 1, k, j, h1, h2 => by
    have h2 : j < (bif P (S k) then sp_rf S P f (k + 1) else k) := h2
    cases c : P (S k) with
    | false => rw [c] at h2; have h2 : j < k := h2; omega
    | true =>
      rw [c] at h2
      by_cases e : j = k
      · rw [e]; exact c
      · exact sp_rf_all f (k + 1) j (by first | decide | omega) h2
theorem sp_rn_all {S : Nat → Nat} {P : Nat → Bool} {m k j : Nat} (h1 : k ≤ j) (h2 : j < sp_rn S P m k) : P (S j) = true := sp_rf_all _ _ _ h1 h2
/-- what a word's token is -/
theorem sp_ty_1 {S : Nat → Nat} {m p : Nat} (h : sp_ty S m p = 1) : sp_le (S p) = true ∧ sp_rn S sp_le m p - p ≤ 8 := by
  unfold sp_ty at h
  cases c1 : sp_le (S p) with
  | true =>
    rw [c1] at h
    have h : (bif Nat.ble (sp_rn S sp_le m p - p) 8 then 1 else 4) = 1 := h
    cases c2 : Nat.ble (sp_rn S sp_le m p - p) 8 with
    | true => exact ⟨rfl, Nat.le_of_ble_eq_true c2⟩
    | false => rw [c2] at h; cases h
  | false =>
    rw [c1] at h
    exfalso
    have h : (bif sp_di (S p) then (bif Nat.ble (sp_rn S sp_di m p - p) 4 then 2 else 4) else bif sp_si (S p) then 3 else 4) = 1 := h
    revert h
    cases sp_di (S p) <;> cases Nat.ble (sp_rn S sp_di m p - p) 4 <;> cases sp_si (S p) <;> decide
theorem sp_ty_2 {S : Nat → Nat} {m p : Nat} (h : sp_ty S m p = 2) : sp_le (S p) = false ∧ sp_di (S p) = true ∧ sp_rn S sp_di m p - p ≤ 4 := by
  unfold sp_ty at h
  cases c1 : sp_le (S p) with
  | true =>
    rw [c1] at h
    exfalso
    have h : (bif Nat.ble (sp_rn S sp_le m p - p) 8 then 1 else 4) = 2 := h
    revert h
    cases Nat.ble (sp_rn S sp_le m p - p) 8 <;> decide
  | false =>
    rw [c1] at h
    have h : (bif sp_di (S p) then (bif Nat.ble (sp_rn S sp_di m p - p) 4 then 2 else 4) else bif sp_si (S p) then 3 else 4) = 2 := h
    cases c2 : sp_di (S p) with
    | false => rw [c2] at h; exfalso; have h : (bif sp_si (S p) then 3 else 4) = 2 := h; revert h; cases sp_si (S p) <;> decide
    | true =>
      rw [c2] at h
      have h : (bif Nat.ble (sp_rn S sp_di m p - p) 4 then 2 else 4) = 2 := h
      cases c3 : Nat.ble (sp_rn S sp_di m p - p) 4 with
      | true => exact ⟨rfl, rfl, Nat.le_of_ble_eq_true c3⟩
      | false => rw [c3] at h; cases h
theorem sp_ty_3 {S : Nat → Nat} {m p : Nat} (h : sp_ty S m p = 3) : sp_le (S p) = false ∧ sp_di (S p) = false := by
  unfold sp_ty at h
  cases c1 : sp_le (S p) with
  | true => rw [c1] at h; exfalso; have h : (bif Nat.ble (sp_rn S sp_le m p - p) 8 then 1 else 4) = 3 := h; revert h; cases Nat.ble (sp_rn S sp_le m p - p) 8 <;> decide
  | false =>
    cases c2 : sp_di (S p) with
    | true => rw [c1, c2] at h; exfalso; have h : (bif Nat.ble (sp_rn S sp_di m p - p) 4 then 2 else 4) = 3 := h; revert h; cases Nat.ble (sp_rn S sp_di m p - p) 4 <;> decide
    | false => exact ⟨rfl, rfl⟩
theorem rT_wd {t : en_H} {S : Nat → Nat} {m N a f w : Nat} (h : rT t S m N) (ha : a ≤ N) (hw : w < 42) : px_wd t a f w ↔ f = 0 ∧ sp_wd S m N a w := by
  have hs := rT_sort h ha
  constructor
  · rintro ⟨hf, h1, x, y, h2, h3, h4⟩
    rw [hs] at h1
    have h1 : sp_kt S m N a = 1 := Sum.inl.inj (Option.some.inj h1)
    unfold sp_kt at h1
    by_cases c : a < N
    · rw [if_pos c] at h1
      obtain ⟨e1, e2⟩ := sp_ty_1 h1
      have hv := (h.1 a c).2.2.2
      rw [hv] at h2
      cases h2
      rw [h.2.2.2.2.2.1 w hw] at h3
      cases h3
      rw [sp_vR_l e1, show min (sp_rn S sp_le m (sp_st S m a) - sp_st S m a) 8 = sp_rn S sp_le m (sp_st S m a) - sp_st S m a by omega] at h4
      have hl : ∀ j, j < sp_rn S sp_le m (sp_st S m a) - sp_st S m a → sp_le (S (sp_st S m a + j)) = true := fun j hj => sp_rn_all (m := m) (k := sp_st S m a) (by first | decide | omega) (by first | decide | omega)
      have b1 := sp_hv37 e2 hl
      have b2 : wd_37 w < 9223372036854775808 := wd_37_lt hw
      rw [sp_lN (by first | decide | omega), sp_lN b2] at h4
      exact ⟨hf, c, h1, (wd_two hw hl).mp (by first | decide | omega)⟩
    · rw [if_neg c] at h1; omega
  · rintro ⟨hf, c, h1, h2⟩
    obtain ⟨e1, e2⟩ := sp_ty_1 h1
    have hl : ∀ j, j < sp_rn S sp_le m (sp_st S m a) - sp_st S m a → sp_le (S (sp_st S m a + j)) = true := fun j hj => sp_rn_all (m := m) (k := sp_st S m a) (by first | decide | omega) (by first | decide | omega)
    refine ⟨hf, (h.1 a c).2.1.trans (by rw [h1]), _, _, (h.1 a c).2.2.2, h.2.2.2.2.2.1 w hw, ?_⟩
    rw [sp_vR_l e1, show min (sp_rn S sp_le m (sp_st S m a) - sp_st S m a) 8 = sp_rn S sp_le m (sp_st S m a) - sp_st S m a by omega, (wd_two hw hl).mpr h2]
theorem rT_sg {t : en_H} {S : Nat → Nat} {m N a f g : Nat} (h : rT t S m N) (ha : a ≤ N) (hg : g < 128) : px_sg t a f g ↔ f = 0 ∧ sp_sg S m N a g := by
  have hs := rT_sort h ha
  constructor
  · rintro ⟨hf, h1, x, h2, h4⟩
    rw [hs] at h1
    have h1 : sp_kt S m N a = 3 := Sum.inl.inj (Option.some.inj h1)
    unfold sp_kt at h1
    by_cases c : a < N
    · rw [if_pos c] at h1
      obtain ⟨e1, e2⟩ := sp_ty_3 h1
      have hv := (h.1 a c).2.2.2
      rw [hv] at h2
      cases h2
      have hb := h.2.2.2.2.2.2 (sp_st S m a) (h.1 a c).1
      rw [sp_vR_s e1 e2, sp_lN (by first | decide | omega), gx_i2l (by first | decide | omega)] at h4
      exact ⟨hf, c, h1, by omega⟩
    · rw [if_neg c] at h1; omega
  · rintro ⟨hf, c, h1, h2⟩
    obtain ⟨e1, e2⟩ := sp_ty_3 h1
    refine ⟨hf, (h.1 a c).2.1.trans (by rw [h1]), _, (h.1 a c).2.2.2, ?_⟩
    rw [sp_vR_s e1 e2, h2, sp_lN (by first | decide | omega), gx_i2l (by first | decide | omega)]
theorem pe_wrong (d n : Nat) {t0 : en_H} {a f w : Nat} {S : Nat → Nat} {m N : Nat} (s0 : px_S t0 a f) (hT : rT t0 S m N) (ha : a ≤ N) (hw : w ≤ 5 ∧ 1 ≤ w) : ∃ r, en_u (d + 1) 101 [gx_r 383, .inl w] t0 n = some r ∧ ∃ t' a' f', r = (none, t', n, 0) ∧ px_S t' a' f' ∧ px_F t0 t' ∧ (a' = a ∧ (f ≠ 0 → f' = f) ∧ (f = 0 → f' = w + 16 * sp_st S m a)) := by
  have b0 := s0.2.2.2
  have hN := hT.2.2.2.2.1
  refine en_u_ex rfl ?_
  show en_ex _ _ _ _ (0, [(0, gx_r 383), (1, .inl w)], [], t0, n, 0) _
  refine ex_go (S := (1, [(0, gx_r 383), (1, .inl w)], [gx_r 383], t0, n, 0)) rfl (fun _ => rfl) rfl ?_
  refine gx_get rfl s0.1 rfl s0.2.2.1 rfl ?_
  by_cases hc1 : f ≠ 0
  · refine gx_1t (c := .ne) rfl (by first | decide | omega) hc1 rfl ?_
    refine ex_ret (r := (none, t0, n, 0)) rfl (fun _ => rfl) ?_
    exact ⟨_, rfl, t0, a, f, rfl, s0, (fun _ _ _ => rfl), by omega⟩
  · refine gx_1f (c := .ne) rfl (by first | decide | omega) hc1 rfl ?_
    refine ex_go (S := (8, [(0, gx_r 383), (1, .inl w)], [gx_r 383], t0, n, 0)) rfl (fun _ => rfl) rfl ?_
    refine ex_go (S := (9, [(0, gx_r 383), (1, .inl w)], [.inl w, gx_r 383], t0, n, 0)) rfl (fun _ => rfl) rfl ?_
    refine ex_go (S := (11, [(0, gx_r 383), (1, .inl w)], [.inl 16, .inl w, gx_r 383], t0, n, 0)) rfl (fun _ => rfl) rfl ?_
    refine ex_go (S := (12, [(0, gx_r 383), (1, .inl w)], [gx_r 383, .inl 16, .inl w, gx_r 383], t0, n, 0)) rfl (fun _ => rfl) rfl ?_
    refine gx_ref (c := 386) rfl s0.1 rfl rfl rfl rfl ?_
    refine ex_go (S := (16, [(0, gx_r 383), (1, .inl w)], [gx_r 383, gx_r 386, .inl 16, .inl w, gx_r 383], t0, n, 0)) rfl (fun _ => rfl) rfl ?_
    refine gx_get rfl s0.1 rfl s0.2.1 rfl ?_
    obtain ⟨k2, k2b⟩ := rT_place hT (a := a) (by first | decide | omega)
    refine gx_ag (v := .inl (sp_st S m a)) (cb := fun c => Nat.beq c 0) rfl (fun _ => rfl) s0.1 rfl rfl k2 (by first | decide | omega) rfl ?_
    refine gx_imul rfl (by first | decide | omega) rfl ?_
    refine ex_iadd rfl (by first | decide | omega) rfl ?_
    refine gx_put rfl s0.1 rfl rfl (ai_in_h (by first | decide | omega) (by first | decide | omega) (by first | decide | omega)) rfl (fun t103 g103 k103 e103 => ?_)
    have k4 : ai_hv t103 386 a = some (.inl (sp_st S m a)) := (e103 386 a (by first | decide | omega)).trans k2
    have s103 : px_S t103 a (w + (16 * (sp_st S m a))) := ⟨g103, (e103 383 7 (by first | decide | omega)).trans s0.2.1, k103, s0.2.2.2.1, by omega⟩
    refine ex_ret (r := (none, t103, n, 0)) rfl (fun _ => rfl) ?_
    exact ⟨_, rfl, t103, a, w + (16 * (sp_st S m a)), rfl, s103, (fun c i h => e103 c i (by first | decide | omega)), by omega⟩
theorem pe_isSign (d n : Nat) {t0 : en_H} {a f w : Nat} {S : Nat → Nat} {m N : Nat} (s0 : px_S t0 a f) (hT : rT t0 S m N) (ha : a ≤ N) (hw : w < 128) : ∃ r, en_u (d + 1) 185 [gx_r 383, .inl w] t0 n = some r ∧ ∃ b, r = (some (.inl b), t0, n, 0) ∧ (b ≤ 1 ∧ (b = 1 ↔ f = 0 ∧ sp_sg S m N a w)) := by
  obtain ⟨r, h1, b, h2, h3, h4⟩ := pk_isSign d n (w := w) s0
  exact ⟨r, h1, b, h2, h3.1, h4.trans (rT_sg hT ha hw)⟩
theorem pe_isWord (d n : Nat) {t0 : en_H} {a f w : Nat} {S : Nat → Nat} {m N : Nat} (s0 : px_S t0 a f) (hT : rT t0 S m N) (ha : a ≤ N) (hw : w < 42) : ∃ r, en_u (d + 1) 99 [gx_r 383, .inl w] t0 n = some r ∧ ∃ b, r = (some (.inl b), t0, n, 0) ∧ (b ≤ 1 ∧ (b = 1 ↔ f = 0 ∧ sp_wd S m N a w)) := by
  obtain ⟨r, h1, b, h2, h3, h4⟩ := pk_isWord d n (w := w) s0 hw
  exact ⟨r, h1, b, h2, h3.1, h4.trans (rT_wd hT ha hw)⟩
theorem pe_takeSign (d n : Nat) {t0 : en_H} {a f w : Nat} {S : Nat → Nat} {m N : Nat} (s0 : px_S t0 a f) (hT : rT t0 S m N) (ha : a ≤ N) (hw : w < 128) : ∃ r, en_u (d + 2) 96 [gx_r 383, .inl w] t0 n = some r ∧ ∃ t' a' f', r = (none, t', n, 0) ∧ px_S t' a' f' ∧ px_F t0 t' ∧ ((f ≠ 0 → f' = f ∧ a' = a) ∧ (f = 0 → (sp_sg S m N a w ∧ f' = 0 ∧ a' = a + 1) ∨ (¬ sp_sg S m N a w ∧ f' = 1 + 16 * sp_st S m a ∧ a' = a))) := by
  have b0 := s0.2.2.2
  have hN := hT.2.2.2.2.1
  refine en_u_ex (d := d + 1) rfl ?_
  show en_ex _ _ _ _ (0, [(0, gx_r 383), (1, .inl w)], [], t0, n, 0) _
  refine ex_go (S := (1, [(0, gx_r 383), (1, .inl w)], [gx_r 383], t0, n, 0)) rfl (fun _ => rfl) rfl ?_
  refine ex_go (S := (2, [(0, gx_r 383), (1, .inl w)], [.inl w, gx_r 383], t0, n, 0)) rfl (fun _ => rfl) rfl ?_
  obtain ⟨_, r3, b1, rfl, q2⟩ := pe_isSign d n (s0) hT (by first | decide | omega) (w := w) (by first | decide | omega)
  refine gx_call1 rfl rfl s0.1 rfl rfl r3 rfl ?_
  by_cases hc4 : b1 = 0
  · refine gx_1t (c := .eq) rfl (by first | decide | omega) hc4 rfl ?_
    refine ex_go (S := (22, [(0, gx_r 383), (1, .inl w)], [gx_r 383], t0, n, 0)) rfl (fun _ => rfl) rfl ?_
    refine ex_go (S := (23, [(0, gx_r 383), (1, .inl w)], [.inl 1, gx_r 383], t0, n, 0)) rfl (fun _ => rfl) rfl ?_
    obtain ⟨_, r105, t105, a105, f105, rfl, s105, e105, q105⟩ := pe_wrong d n (s0) hT (by first | decide | omega) (w := 1) (by first | decide | omega)
    have b105 := s105.2.2.2
    have hT105 := rT_keep hT (fun c i h => e105 c i (by first | decide | omega))
    refine gx_call0 rfl rfl s0.1 rfl rfl r105 rfl ?_
    refine ex_ret (r := (none, t105, n, 0)) rfl (fun _ => rfl) ?_
    exact ⟨_, rfl, t105, a105, f105, rfl, s105, (fun c i h => e105 c i (by first | decide | omega)), ⟨fun hf => by omega, fun hf => Or.inr ⟨fun z => absurd (q2.2.mpr ⟨hf, z⟩) (by first | decide | omega), by omega⟩⟩⟩
  · refine gx_1f (c := .eq) rfl (by first | decide | omega) hc4 rfl ?_
    have hlt9 : a < N := (q2.2.mp (by first | decide | omega)).2.1
    refine ex_go (S := (9, [(0, gx_r 383), (1, .inl w)], [gx_r 383], t0, n, 0)) rfl (fun _ => rfl) rfl ?_
    refine ex_go (S := (10, [(0, gx_r 383), (1, .inl w)], [gx_r 383, gx_r 383], t0, n, 0)) rfl (fun _ => rfl) rfl ?_
    refine gx_get rfl s0.1 rfl s0.2.1 rfl ?_
    refine ex_go (S := (14, [(0, gx_r 383), (1, .inl w)], [.inl 1, .inl a, gx_r 383], t0, n, 0)) rfl (fun _ => rfl) rfl ?_
    refine ex_iadd rfl (by first | decide | omega) rfl ?_
    refine gx_put rfl s0.1 rfl rfl (ai_in_h (by first | decide | omega) (by first | decide | omega) (by first | decide | omega)) rfl (fun t106 g106 k106 e106 => ?_)
    have s106 : px_S t106 (a + 1) f := ⟨g106, k106, (e106 383 8 (by first | decide | omega)).trans s0.2.2.1, by omega, s0.2.2.2.2⟩
    refine ex_go (S := (26, [(0, gx_r 383), (1, .inl w)], [], t106, n, 0)) rfl (fun _ => rfl) rfl ?_
    refine ex_ret (r := (none, t106, n, 0)) rfl (fun _ => rfl) ?_
    exact ⟨_, rfl, t106, a + 1, f, rfl, s106, (fun c i h => e106 c i (by first | decide | omega)), ⟨fun hf => absurd hf (by have := (q2.2.mp (by first | decide | omega)).1; omega), fun _ => Or.inl ⟨(q2.2.mp (by first | decide | omega)).2, by omega⟩⟩⟩
theorem pe_hasSign (d n : Nat) {t0 : en_H} {a f w : Nat} {S : Nat → Nat} {m N : Nat} (s0 : px_S t0 a f) (hT : rT t0 S m N) (ha : a ≤ N) (hw : w < 128) : ∃ r, en_u (d + 2) 283 [gx_r 383, .inl w] t0 n = some r ∧ ∃ v t' a' f', r = (some (.inl v), t', n, 0) ∧ px_S t' a' f' ∧ px_F t0 t' ∧ ((v ≤ 1 ∧ f' = f ∧ a' = a + v) ∧ (v = 1 ↔ f = 0 ∧ sp_sg S m N a w)) := by
  obtain ⟨r, h1, v, t', a', f', h2, h3, h4, h5, h6⟩ := pk_hasSign d n (w := w) s0
  exact ⟨r, h1, v, t', a', f', h2, h3, h4, by omega, h6.trans (rT_sg hT ha hw)⟩
theorem pe_hasWord (d n : Nat) {t0 : en_H} {a f w : Nat} {S : Nat → Nat} {m N : Nat} (s0 : px_S t0 a f) (hT : rT t0 S m N) (ha : a ≤ N) (hw : w < 42) : ∃ r, en_u (d + 2) 184 [gx_r 383, .inl w] t0 n = some r ∧ ∃ v t' a' f', r = (some (.inl v), t', n, 0) ∧ px_S t' a' f' ∧ px_F t0 t' ∧ ((v ≤ 1 ∧ f' = f ∧ a' = a + v) ∧ (v = 1 ↔ f = 0 ∧ sp_wd S m N a w)) := by
  obtain ⟨r, h1, v, t', a', f', h2, h3, h4, h5, h6⟩ := pk_hasWord d n (w := w) s0 hw
  exact ⟨r, h1, v, t', a', f', h2, h3, h4, by omega, h6.trans (rT_wd hT ha hw)⟩
theorem pe_takeWord (d n : Nat) {t0 : en_H} {a f w : Nat} {S : Nat → Nat} {m N : Nat} (s0 : px_S t0 a f) (hT : rT t0 S m N) (ha : a ≤ N) (hw : w < 42) : ∃ r, en_u (d + 3) 94 [gx_r 383, .inl w] t0 n = some r ∧ ∃ t' a' f', r = (none, t', n, 0) ∧ px_S t' a' f' ∧ px_F t0 t' ∧ ((f ≠ 0 → f' = f ∧ a' = a) ∧ (f = 0 → (sp_wd S m N a w ∧ f' = 0 ∧ a' = a + 1) ∨ (¬ sp_wd S m N a w ∧ f' = 1 + 16 * sp_st S m a ∧ a' = a))) := by
  have b0 := s0.2.2.2
  have hN := hT.2.2.2.2.1
  refine en_u_ex (d := d + 2) rfl ?_
  show en_ex _ _ _ _ (0, [(0, gx_r 383), (1, .inl w)], [], t0, n, 0) _
  refine ex_go (S := (1, [(0, gx_r 383), (1, .inl w)], [gx_r 383], t0, n, 0)) rfl (fun _ => rfl) rfl ?_
  refine ex_go (S := (2, [(0, gx_r 383), (1, .inl w)], [.inl w, gx_r 383], t0, n, 0)) rfl (fun _ => rfl) rfl ?_
  obtain ⟨_, r101, v101, t101, a101, f101, rfl, s101, e101, q101⟩ := pe_hasWord d n (s0) hT (by first | decide | omega) (w := w) (by first | decide | omega)
  have b101 := s101.2.2.2
  have hT101 := rT_keep hT (fun c i h => e101 c i (by first | decide | omega))
  have hup : v101 = 1 → a < N := fun z => (q101.2.mp z).2.1
  refine gx_call1 rfl rfl s0.1 rfl rfl r101 rfl ?_
  by_cases hc2 : v101 ≠ 0
  · refine gx_1t (c := .ne) rfl (by first | decide | omega) hc2 rfl ?_
    refine ex_ret (r := (none, t101, n, 0)) rfl (fun _ => rfl) ?_
    have hst9 : sp_st S m (a101) = sp_st S m a ∨ v101 = 1 := by
      rcases (show v101 = 0 ∨ v101 = 1 by omega) with z | z
      · exact Or.inl (by rw [show a101 = a by omega])
      · exact Or.inr z
    exact ⟨_, rfl, t101, a101, f101, rfl, s101, (fun c i h => e101 c i (by first | decide | omega)), ⟨fun hf => absurd hf (by have := (q101.2.mp (by first | decide | omega)).1; omega), fun _ => Or.inl ⟨(q101.2.mp (by first | decide | omega)).2, by omega⟩⟩⟩
  · refine gx_1f (c := .ne) rfl (by first | decide | omega) hc2 rfl ?_
    refine ex_go (S := (9, [(0, gx_r 383), (1, .inl w)], [gx_r 383], t101, n, 0)) rfl (fun _ => rfl) rfl ?_
    refine ex_go (S := (10, [(0, gx_r 383), (1, .inl w)], [.inl 1, gx_r 383], t101, n, 0)) rfl (fun _ => rfl) rfl ?_
    obtain ⟨_, r103, t103, a103, f103, rfl, s103, e103, q103⟩ := pe_wrong (d + 1) n (s101) hT101 (by first | decide | omega) (w := 1) (by first | decide | omega)
    have b103 := s103.2.2.2
    have hT103 := rT_keep hT101 (fun c i h => e103 c i (by first | decide | omega))
    refine gx_call0 rfl rfl s101.1 rfl rfl r103 rfl ?_
    refine ex_ret (r := (none, t103, n, 0)) rfl (fun _ => rfl) ?_
    have hst9 : sp_st S m (a101) = sp_st S m a ∨ v101 = 1 := by
      rcases (show v101 = 0 ∨ v101 = 1 by omega) with z | z
      · exact Or.inl (by rw [show a101 = a by omega])
      · exact Or.inr z
    exact ⟨_, rfl, t103, a103, f103, rfl, s103, (fun c i h => (e103 c i (by first | decide | omega)).trans (e101 c i (by first | decide | omega))), ⟨fun hf => by omega, fun hf => Or.inr ⟨fun z => absurd (q101.2.mpr ⟨hf, z⟩) (by first | decide | omega), by omega⟩⟩⟩
/-- the number that the token a is -/
noncomputable def sp_nv (S : Nat → Nat) (m a : Nat) : Nat := sp_hv S (sp_st S m a) 10 48 (sp_rn S sp_di m (sp_st S m a) - sp_st S m a)
theorem rT_num {t : en_H} {S : Nat → Nat} {m N a : Nat} (h : rT t S m N) (hk : sp_kt S m N a = 2) : a < N ∧ ai_hv t 387 a = some (.inr (.inl (sp_nv S m a))) ∧ sp_nv S m a < 10000 := by
  unfold sp_kt at hk
  by_cases c : a < N
  · rw [if_pos c] at hk
    obtain ⟨e0, e1, e2⟩ := sp_ty_2 hk
    have hl : ∀ j, j < sp_rn S sp_di m (sp_st S m a) - sp_st S m a → sp_di (S (sp_st S m a + j)) = true := fun j hj => sp_rn_all (m := m) (k := sp_st S m a) (by first | decide | omega) (by first | decide | omega)
    have hv := (h.1 a c).2.2.2
    rw [sp_vR_d e0 e1, show min (sp_rn S sp_di m (sp_st S m a) - sp_st S m a) 4 = sp_rn S sp_di m (sp_st S m a) - sp_st S m a by omega] at hv
    exact ⟨c, hv, sp_hv10 e2 hl⟩
  · rw [if_neg c] at hk; omega
theorem pe_takeNumber (d n : Nat) {t0 : en_H} {a f lo hi : Nat} {S : Nat → Nat} {m N : Nat} (s0 : px_S t0 a f) (hT : rT t0 S m N) (ha : a ≤ N) (h1 : lo < 2147483648) (h2 : f = 0 → hi < 2147483648) : ∃ r, en_u (d + 2) 95 [gx_r 383, .inl lo, .inl hi] t0 n = some r ∧ ∃ v t' a' f', r = (some (.inl v), t', n, 0) ∧ px_S t' a' f' ∧ px_F t0 t' ∧ ((f ≠ 0 → f' = f ∧ a' = a ∧ v = 0) ∧ (f = 0 → (sp_kt S m N a ≠ 2 ∧ f' = 1 + 16 * sp_st S m a ∧ a' = a ∧ v = 0) ∨ (sp_kt S m N a = 2 ∧ (sp_nv S m a < lo ∨ hi < sp_nv S m a) ∧ f' = 4 + 16 * sp_st S m a ∧ a' = a ∧ v = 0) ∨ (sp_kt S m N a = 2 ∧ lo ≤ sp_nv S m a ∧ sp_nv S m a ≤ hi ∧ f' = 0 ∧ a' = a + 1 ∧ v = sp_nv S m a))) := by
  have b0 := s0.2.2.2
  have hN := hT.2.2.2.2.1
  refine en_u_ex (d := d + 1) rfl ?_
  show en_ex _ _ _ _ (0, [(0, gx_r 383), (1, .inl lo), (2, .inl hi)], [], t0, n, 0) _
  refine ex_go (S := (1, [(0, gx_r 383), (1, .inl lo), (2, .inl hi)], [gx_r 383], t0, n, 0)) rfl (fun _ => rfl) rfl ?_
  refine gx_get rfl s0.1 rfl s0.2.2.1 rfl ?_
  by_cases hc1 : f ≠ 0
  · refine gx_1t (c := .ne) rfl (by first | decide | omega) hc1 rfl ?_
    refine ex_go (S := (29, [(0, gx_r 383), (1, .inl lo), (2, .inl hi)], [gx_r 383], t0, n, 0)) rfl (fun _ => rfl) rfl ?_
    refine gx_get rfl s0.1 rfl s0.2.2.1 rfl ?_
    refine gx_1t (c := .ne) rfl (by first | decide | omega) (show f ≠ 0 from by omega) rfl ?_
    refine ex_go (S := (71, [(0, gx_r 383), (1, .inl lo), (2, .inl hi)], [gx_r 383], t0, n, 0)) rfl (fun _ => rfl) rfl ?_
    refine gx_get rfl s0.1 rfl s0.2.2.1 rfl ?_
    refine gx_1f (c := .le) rfl (by first | decide | omega) (show ¬ (f ≤ 0) from by omega) rfl ?_
    refine ex_go (S := (78, [(0, gx_r 383), (1, .inl lo), (2, .inl hi)], [.inl 0], t0, n, 0)) rfl (fun _ => rfl) rfl ?_
    refine ex_ret (r := (some (.inl 0), t0, n, 0)) rfl (fun _ => rfl) ?_
    exact ⟨_, rfl, 0, t0, a, f, rfl, s0, (fun _ _ _ => rfl), by omega⟩
  · refine gx_1f (c := .ne) rfl (by first | decide | omega) hc1 rfl ?_
    refine ex_go (S := (8, [(0, gx_r 383), (1, .inl lo), (2, .inl hi)], [gx_r 383], t0, n, 0)) rfl (fun _ => rfl) rfl ?_
    refine gx_ref (c := 385) rfl s0.1 rfl rfl rfl rfl ?_
    refine ex_go (S := (12, [(0, gx_r 383), (1, .inl lo), (2, .inl hi)], [gx_r 383, gx_r 385], t0, n, 0)) rfl (fun _ => rfl) rfl ?_
    refine gx_get rfl s0.1 rfl s0.2.1 rfl ?_
    have k2 := rT_sort hT (a := a) (by first | decide | omega)
    have k2b : sp_kt S m N a ≤ 4 := by unfold sp_kt; have := sp_ty_le S m (sp_st S m a); split <;> omega
    refine gx_ag (v := .inl (sp_kt S m N a)) (cb := fun c => Nat.beq c 0) rfl (fun _ => rfl) s0.1 rfl rfl k2 (by first | decide | omega) rfl ?_
    refine ex_go (S := (17, [(0, gx_r 383), (1, .inl lo), (2, .inl hi)], [.inl 2, .inl (sp_kt S m N a)], t0, n, 0)) rfl (fun _ => rfl) rfl ?_
    by_cases hc3 : sp_kt S m N a = 2
    · refine gx_2t (c := .eq) rfl (by first | decide | omega) (by first | decide | omega) hc3 rfl ?_
      refine ex_go (S := (29, [(0, gx_r 383), (1, .inl lo), (2, .inl hi)], [gx_r 383], t0, n, 0)) rfl (fun _ => rfl) rfl ?_
      refine gx_get rfl s0.1 rfl s0.2.2.1 rfl ?_
      refine gx_1f (c := .ne) rfl (by first | decide | omega) (show ¬ (f ≠ 0) from by omega) rfl ?_
      refine ex_go (S := (36, [(0, gx_r 383), (1, .inl lo), (2, .inl hi)], [gx_r 383], t0, n, 0)) rfl (fun _ => rfl) rfl ?_
      refine gx_ref (c := 387) rfl s0.1 rfl rfl rfl rfl ?_
      refine ex_go (S := (40, [(0, gx_r 383), (1, .inl lo), (2, .inl hi)], [gx_r 383, gx_r 387], t0, n, 0)) rfl (fun _ => rfl) rfl ?_
      refine gx_get rfl s0.1 rfl s0.2.1 rfl ?_
      obtain ⟨hlt9, k4, hnv9⟩ := rT_num hT (a := a) (by first | decide | omega)
      have hni := sp_lN (show sp_nv S m a < 9223372036854775808 by omega)
      have hli := gx_i2l (x := lo) (by first | decide | omega)
      have hhi := gx_i2l (x := hi) (by first | decide | omega)
      refine gx_ag (v := .inr (.inl (sp_nv S m a))) (cb := fun c => Nat.beq c 3) rfl (fun _ => rfl) s0.1 rfl rfl k4 (by first | decide | omega) rfl ?_
      refine ex_go (S := (45, [(0, gx_r 383), (1, .inl lo), (2, .inl hi)], [.inl lo, .inr (.inl (sp_nv S m a))], t0, n, 0)) rfl (fun _ => rfl) rfl ?_
      refine ex_go (S := (46, [(0, gx_r 383), (1, .inl lo), (2, .inl hi)], [.inr (.inl ((nI lo).toInt64.toBitVec.toNat)), .inr (.inl (sp_nv S m a))], t0, n, 0)) rfl (fun _ => rfl) rfl ?_
      refine gx_lcmp rfl rfl (fun hl5 => ?_) (fun hl5 => ?_) (fun hl5 => ?_)
      · refine ex_go (S := (50, [(0, gx_r 383), (1, .inl lo), (2, .inl hi)], [], t0, n, 0)) rfl (fun _ => rfl) rfl ?_
        refine ex_go (S := (51, [(0, gx_r 383), (1, .inl lo), (2, .inl hi)], [gx_r 383], t0, n, 0)) rfl (fun _ => rfl) rfl ?_
        refine gx_ref (c := 387) rfl s0.1 rfl rfl rfl rfl ?_
        refine ex_go (S := (55, [(0, gx_r 383), (1, .inl lo), (2, .inl hi)], [gx_r 383, gx_r 387], t0, n, 0)) rfl (fun _ => rfl) rfl ?_
        refine gx_get rfl s0.1 rfl s0.2.1 rfl ?_
        refine gx_ag (v := .inr (.inl (sp_nv S m a))) (cb := fun c => Nat.beq c 3) rfl (fun _ => rfl) s0.1 rfl rfl k4 (by first | decide | omega) rfl ?_
        refine ex_go (S := (60, [(0, gx_r 383), (1, .inl lo), (2, .inl hi)], [.inl hi, .inr (.inl (sp_nv S m a))], t0, n, 0)) rfl (fun _ => rfl) rfl ?_
        refine ex_go (S := (61, [(0, gx_r 383), (1, .inl lo), (2, .inl hi)], [.inr (.inl ((nI hi).toInt64.toBitVec.toNat)), .inr (.inl (sp_nv S m a))], t0, n, 0)) rfl (fun _ => rfl) rfl ?_
        refine gx_lcmp rfl rfl (fun hl6 => ?_) (fun hl6 => ?_) (fun hl6 => ?_)
        · refine ex_go (S := (70, [(0, gx_r 383), (1, .inl lo), (2, .inl hi)], [], t0, n, 0)) rfl (fun _ => rfl) rfl ?_
          refine ex_go (S := (71, [(0, gx_r 383), (1, .inl lo), (2, .inl hi)], [gx_r 383], t0, n, 0)) rfl (fun _ => rfl) rfl ?_
          refine gx_get rfl s0.1 rfl s0.2.2.1 rfl ?_
          refine gx_1t (c := .le) rfl (by first | decide | omega) (show f ≤ 0 from by omega) rfl ?_
          refine ex_go (S := (80, [(0, gx_r 383), (1, .inl lo), (2, .inl hi)], [gx_r 383], t0, n, 0)) rfl (fun _ => rfl) rfl ?_
          refine ex_go (S := (81, [(0, gx_r 383), (1, .inl lo), (2, .inl hi)], [gx_r 383, gx_r 383], t0, n, 0)) rfl (fun _ => rfl) rfl ?_
          refine gx_get rfl s0.1 rfl s0.2.1 rfl ?_
          refine ex_go (S := (85, [(0, gx_r 383), (1, .inl lo), (2, .inl hi)], [.inl 1, .inl a, gx_r 383], t0, n, 0)) rfl (fun _ => rfl) rfl ?_
          refine ex_iadd rfl (by first | decide | omega) rfl ?_
          refine gx_put rfl s0.1 rfl rfl (ai_in_h (by first | decide | omega) (by first | decide | omega) (by first | decide | omega)) rfl (fun t107 g107 k107 e107 => ?_)
          have k8 : ai_hv t107 385 a = some (.inl (sp_kt S m N a)) := (e107 385 a (by first | decide | omega)).trans k2
          have k9 : ai_hv t107 387 a = some (.inr (.inl (sp_nv S m a))) := (e107 387 a (by first | decide | omega)).trans k4
          have s107 : px_S t107 (a + 1) f := ⟨g107, k107, (e107 383 8 (by first | decide | omega)).trans s0.2.2.1, by omega, s0.2.2.2.2⟩
          refine ex_go (S := (90, [(0, gx_r 383), (1, .inl lo), (2, .inl hi)], [gx_r 383], t107, n, 0)) rfl (fun _ => rfl) rfl ?_
          refine gx_ref (c := 387) rfl s107.1 rfl rfl rfl rfl ?_
          refine ex_go (S := (94, [(0, gx_r 383), (1, .inl lo), (2, .inl hi)], [gx_r 383, gx_r 387], t107, n, 0)) rfl (fun _ => rfl) rfl ?_
          refine gx_get rfl s107.1 rfl s107.2.1 rfl ?_
          refine ex_go (S := (98, [(0, gx_r 383), (1, .inl lo), (2, .inl hi)], [.inl 1, .inl (a + 1), gx_r 387], t107, n, 0)) rfl (fun _ => rfl) rfl ?_
          refine gx_isub rfl (by first | decide | omega) (by first | decide | omega) rfl ?_
          have kv10 : ai_hv t107 387 ((a + 1) - 1) = some (.inr (.inl (sp_nv S m a))) := by rw [show (a + 1) - 1 = a by omega]; exact k9
          refine gx_ag (v := .inr (.inl (sp_nv S m a))) (cb := fun c => Nat.beq c 3) rfl (fun _ => rfl) s107.1 rfl rfl kv10 (by first | decide | omega) rfl ?_
          refine ex_go (S := (101, [(0, gx_r 383), (1, .inl lo), (2, .inl hi)], [.inl ((lN (sp_nv S m a)).toInt32.toBitVec.toNat)], t107, n, 0)) rfl (fun _ => rfl) rfl ?_
          have z11 : (lN (sp_nv S m a)).toInt32.toBitVec.toNat = sp_nv S m a := by
            have h9 := gx_l2i (m := sp_nv S m a) (lo := sp_nv S m a) (hi := sp_nv S m a) (by first | decide | omega) (by first | decide | omega) (by first | decide | omega)
            omega
          rw [z11]
          refine ex_ret (r := (some (.inl (sp_nv S m a)), t107, n, 0)) rfl (fun _ => rfl) ?_
          exact ⟨_, rfl, sp_nv S m a, t107, a + 1, f, rfl, s107, (fun c i h => e107 c i (by first | decide | omega)), by omega⟩
        · refine ex_go (S := (65, [(0, gx_r 383), (1, .inl lo), (2, .inl hi)], [], t0, n, 0)) rfl (fun _ => rfl) rfl ?_
          refine ex_go (S := (66, [(0, gx_r 383), (1, .inl lo), (2, .inl hi)], [gx_r 383], t0, n, 0)) rfl (fun _ => rfl) rfl ?_
          refine ex_go (S := (67, [(0, gx_r 383), (1, .inl lo), (2, .inl hi)], [.inl 4, gx_r 383], t0, n, 0)) rfl (fun _ => rfl) rfl ?_
          obtain ⟨_, r112, t112, a112, f112, rfl, s112, e112, q112⟩ := pe_wrong d n (s0) hT (by first | decide | omega) (w := 4) (by first | decide | omega)
          have b112 := s112.2.2.2
          have hT112 := rT_keep hT (fun c i h => e112 c i (by first | decide | omega))
          refine gx_call0 rfl rfl s0.1 rfl rfl r112 rfl ?_
          have k13 : ai_hv t112 385 a = some (.inl (sp_kt S m N a)) := (e112 385 a (by first | decide | omega)).trans k2
          have k14 : ai_hv t112 387 a = some (.inr (.inl (sp_nv S m a))) := (e112 387 a (by first | decide | omega)).trans k4
          refine ex_go (S := (71, [(0, gx_r 383), (1, .inl lo), (2, .inl hi)], [gx_r 383], t112, n, 0)) rfl (fun _ => rfl) rfl ?_
          refine gx_get rfl s112.1 rfl s112.2.2.1 rfl ?_
          refine gx_1f (c := .le) rfl (by first | decide | omega) (show ¬ (f112 ≤ 0) from by omega) rfl ?_
          refine ex_go (S := (78, [(0, gx_r 383), (1, .inl lo), (2, .inl hi)], [.inl 0], t112, n, 0)) rfl (fun _ => rfl) rfl ?_
          refine ex_ret (r := (some (.inl 0), t112, n, 0)) rfl (fun _ => rfl) ?_
          exact ⟨_, rfl, 0, t112, a112, f112, rfl, s112, (fun c i h => e112 c i (by first | decide | omega)), by omega⟩
        · refine ex_go (S := (70, [(0, gx_r 383), (1, .inl lo), (2, .inl hi)], [], t0, n, 0)) rfl (fun _ => rfl) rfl ?_
          refine ex_go (S := (71, [(0, gx_r 383), (1, .inl lo), (2, .inl hi)], [gx_r 383], t0, n, 0)) rfl (fun _ => rfl) rfl ?_
          refine gx_get rfl s0.1 rfl s0.2.2.1 rfl ?_
          refine gx_1t (c := .le) rfl (by first | decide | omega) (show f ≤ 0 from by omega) rfl ?_
          refine ex_go (S := (80, [(0, gx_r 383), (1, .inl lo), (2, .inl hi)], [gx_r 383], t0, n, 0)) rfl (fun _ => rfl) rfl ?_
          refine ex_go (S := (81, [(0, gx_r 383), (1, .inl lo), (2, .inl hi)], [gx_r 383, gx_r 383], t0, n, 0)) rfl (fun _ => rfl) rfl ?_
          refine gx_get rfl s0.1 rfl s0.2.1 rfl ?_
          refine ex_go (S := (85, [(0, gx_r 383), (1, .inl lo), (2, .inl hi)], [.inl 1, .inl a, gx_r 383], t0, n, 0)) rfl (fun _ => rfl) rfl ?_
          refine ex_iadd rfl (by first | decide | omega) rfl ?_
          refine gx_put rfl s0.1 rfl rfl (ai_in_h (by first | decide | omega) (by first | decide | omega) (by first | decide | omega)) rfl (fun t115 g115 k115 e115 => ?_)
          have k16 : ai_hv t115 385 a = some (.inl (sp_kt S m N a)) := (e115 385 a (by first | decide | omega)).trans k2
          have k17 : ai_hv t115 387 a = some (.inr (.inl (sp_nv S m a))) := (e115 387 a (by first | decide | omega)).trans k4
          have s115 : px_S t115 (a + 1) f := ⟨g115, k115, (e115 383 8 (by first | decide | omega)).trans s0.2.2.1, by omega, s0.2.2.2.2⟩
          refine ex_go (S := (90, [(0, gx_r 383), (1, .inl lo), (2, .inl hi)], [gx_r 383], t115, n, 0)) rfl (fun _ => rfl) rfl ?_
          refine gx_ref (c := 387) rfl s115.1 rfl rfl rfl rfl ?_
          refine ex_go (S := (94, [(0, gx_r 383), (1, .inl lo), (2, .inl hi)], [gx_r 383, gx_r 387], t115, n, 0)) rfl (fun _ => rfl) rfl ?_
          refine gx_get rfl s115.1 rfl s115.2.1 rfl ?_
          refine ex_go (S := (98, [(0, gx_r 383), (1, .inl lo), (2, .inl hi)], [.inl 1, .inl (a + 1), gx_r 387], t115, n, 0)) rfl (fun _ => rfl) rfl ?_
          refine gx_isub rfl (by first | decide | omega) (by first | decide | omega) rfl ?_
          have kv18 : ai_hv t115 387 ((a + 1) - 1) = some (.inr (.inl (sp_nv S m a))) := by rw [show (a + 1) - 1 = a by omega]; exact k17
          refine gx_ag (v := .inr (.inl (sp_nv S m a))) (cb := fun c => Nat.beq c 3) rfl (fun _ => rfl) s115.1 rfl rfl kv18 (by first | decide | omega) rfl ?_
          refine ex_go (S := (101, [(0, gx_r 383), (1, .inl lo), (2, .inl hi)], [.inl ((lN (sp_nv S m a)).toInt32.toBitVec.toNat)], t115, n, 0)) rfl (fun _ => rfl) rfl ?_
          have z19 : (lN (sp_nv S m a)).toInt32.toBitVec.toNat = sp_nv S m a := by
            have h9 := gx_l2i (m := sp_nv S m a) (lo := sp_nv S m a) (hi := sp_nv S m a) (by first | decide | omega) (by first | decide | omega) (by first | decide | omega)
            omega
          rw [z19]
          refine ex_ret (r := (some (.inl (sp_nv S m a)), t115, n, 0)) rfl (fun _ => rfl) ?_
          exact ⟨_, rfl, sp_nv S m a, t115, a + 1, f, rfl, s115, (fun c i h => e115 c i (by first | decide | omega)), by omega⟩
      · refine ex_go (S := (50, [(0, gx_r 383), (1, .inl lo), (2, .inl hi)], [], t0, n, 0)) rfl (fun _ => rfl) rfl ?_
        refine ex_go (S := (51, [(0, gx_r 383), (1, .inl lo), (2, .inl hi)], [gx_r 383], t0, n, 0)) rfl (fun _ => rfl) rfl ?_
        refine gx_ref (c := 387) rfl s0.1 rfl rfl rfl rfl ?_
        refine ex_go (S := (55, [(0, gx_r 383), (1, .inl lo), (2, .inl hi)], [gx_r 383, gx_r 387], t0, n, 0)) rfl (fun _ => rfl) rfl ?_
        refine gx_get rfl s0.1 rfl s0.2.1 rfl ?_
        refine gx_ag (v := .inr (.inl (sp_nv S m a))) (cb := fun c => Nat.beq c 3) rfl (fun _ => rfl) s0.1 rfl rfl k4 (by first | decide | omega) rfl ?_
        refine ex_go (S := (60, [(0, gx_r 383), (1, .inl lo), (2, .inl hi)], [.inl hi, .inr (.inl (sp_nv S m a))], t0, n, 0)) rfl (fun _ => rfl) rfl ?_
        refine ex_go (S := (61, [(0, gx_r 383), (1, .inl lo), (2, .inl hi)], [.inr (.inl ((nI hi).toInt64.toBitVec.toNat)), .inr (.inl (sp_nv S m a))], t0, n, 0)) rfl (fun _ => rfl) rfl ?_
        refine gx_lcmp rfl rfl (fun hl20 => ?_) (fun hl20 => ?_) (fun hl20 => ?_)
        · refine ex_go (S := (70, [(0, gx_r 383), (1, .inl lo), (2, .inl hi)], [], t0, n, 0)) rfl (fun _ => rfl) rfl ?_
          refine ex_go (S := (71, [(0, gx_r 383), (1, .inl lo), (2, .inl hi)], [gx_r 383], t0, n, 0)) rfl (fun _ => rfl) rfl ?_
          refine gx_get rfl s0.1 rfl s0.2.2.1 rfl ?_
          refine gx_1t (c := .le) rfl (by first | decide | omega) (show f ≤ 0 from by omega) rfl ?_
          refine ex_go (S := (80, [(0, gx_r 383), (1, .inl lo), (2, .inl hi)], [gx_r 383], t0, n, 0)) rfl (fun _ => rfl) rfl ?_
          refine ex_go (S := (81, [(0, gx_r 383), (1, .inl lo), (2, .inl hi)], [gx_r 383, gx_r 383], t0, n, 0)) rfl (fun _ => rfl) rfl ?_
          refine gx_get rfl s0.1 rfl s0.2.1 rfl ?_
          refine ex_go (S := (85, [(0, gx_r 383), (1, .inl lo), (2, .inl hi)], [.inl 1, .inl a, gx_r 383], t0, n, 0)) rfl (fun _ => rfl) rfl ?_
          refine ex_iadd rfl (by first | decide | omega) rfl ?_
          refine gx_put rfl s0.1 rfl rfl (ai_in_h (by first | decide | omega) (by first | decide | omega) (by first | decide | omega)) rfl (fun t121 g121 k121 e121 => ?_)
          have k22 : ai_hv t121 385 a = some (.inl (sp_kt S m N a)) := (e121 385 a (by first | decide | omega)).trans k2
          have k23 : ai_hv t121 387 a = some (.inr (.inl (sp_nv S m a))) := (e121 387 a (by first | decide | omega)).trans k4
          have s121 : px_S t121 (a + 1) f := ⟨g121, k121, (e121 383 8 (by first | decide | omega)).trans s0.2.2.1, by omega, s0.2.2.2.2⟩
          refine ex_go (S := (90, [(0, gx_r 383), (1, .inl lo), (2, .inl hi)], [gx_r 383], t121, n, 0)) rfl (fun _ => rfl) rfl ?_
          refine gx_ref (c := 387) rfl s121.1 rfl rfl rfl rfl ?_
          refine ex_go (S := (94, [(0, gx_r 383), (1, .inl lo), (2, .inl hi)], [gx_r 383, gx_r 387], t121, n, 0)) rfl (fun _ => rfl) rfl ?_
          refine gx_get rfl s121.1 rfl s121.2.1 rfl ?_
          refine ex_go (S := (98, [(0, gx_r 383), (1, .inl lo), (2, .inl hi)], [.inl 1, .inl (a + 1), gx_r 387], t121, n, 0)) rfl (fun _ => rfl) rfl ?_
          refine gx_isub rfl (by first | decide | omega) (by first | decide | omega) rfl ?_
          have kv24 : ai_hv t121 387 ((a + 1) - 1) = some (.inr (.inl (sp_nv S m a))) := by rw [show (a + 1) - 1 = a by omega]; exact k23
          refine gx_ag (v := .inr (.inl (sp_nv S m a))) (cb := fun c => Nat.beq c 3) rfl (fun _ => rfl) s121.1 rfl rfl kv24 (by first | decide | omega) rfl ?_
          refine ex_go (S := (101, [(0, gx_r 383), (1, .inl lo), (2, .inl hi)], [.inl ((lN (sp_nv S m a)).toInt32.toBitVec.toNat)], t121, n, 0)) rfl (fun _ => rfl) rfl ?_
          have z25 : (lN (sp_nv S m a)).toInt32.toBitVec.toNat = sp_nv S m a := by
            have h9 := gx_l2i (m := sp_nv S m a) (lo := sp_nv S m a) (hi := sp_nv S m a) (by first | decide | omega) (by first | decide | omega) (by first | decide | omega)
            omega
          rw [z25]
          refine ex_ret (r := (some (.inl (sp_nv S m a)), t121, n, 0)) rfl (fun _ => rfl) ?_
          exact ⟨_, rfl, sp_nv S m a, t121, a + 1, f, rfl, s121, (fun c i h => e121 c i (by first | decide | omega)), by omega⟩
        · refine ex_go (S := (65, [(0, gx_r 383), (1, .inl lo), (2, .inl hi)], [], t0, n, 0)) rfl (fun _ => rfl) rfl ?_
          refine ex_go (S := (66, [(0, gx_r 383), (1, .inl lo), (2, .inl hi)], [gx_r 383], t0, n, 0)) rfl (fun _ => rfl) rfl ?_
          refine ex_go (S := (67, [(0, gx_r 383), (1, .inl lo), (2, .inl hi)], [.inl 4, gx_r 383], t0, n, 0)) rfl (fun _ => rfl) rfl ?_
          obtain ⟨_, r126, t126, a126, f126, rfl, s126, e126, q126⟩ := pe_wrong d n (s0) hT (by first | decide | omega) (w := 4) (by first | decide | omega)
          have b126 := s126.2.2.2
          have hT126 := rT_keep hT (fun c i h => e126 c i (by first | decide | omega))
          refine gx_call0 rfl rfl s0.1 rfl rfl r126 rfl ?_
          have k27 : ai_hv t126 385 a = some (.inl (sp_kt S m N a)) := (e126 385 a (by first | decide | omega)).trans k2
          have k28 : ai_hv t126 387 a = some (.inr (.inl (sp_nv S m a))) := (e126 387 a (by first | decide | omega)).trans k4
          refine ex_go (S := (71, [(0, gx_r 383), (1, .inl lo), (2, .inl hi)], [gx_r 383], t126, n, 0)) rfl (fun _ => rfl) rfl ?_
          refine gx_get rfl s126.1 rfl s126.2.2.1 rfl ?_
          refine gx_1f (c := .le) rfl (by first | decide | omega) (show ¬ (f126 ≤ 0) from by omega) rfl ?_
          refine ex_go (S := (78, [(0, gx_r 383), (1, .inl lo), (2, .inl hi)], [.inl 0], t126, n, 0)) rfl (fun _ => rfl) rfl ?_
          refine ex_ret (r := (some (.inl 0), t126, n, 0)) rfl (fun _ => rfl) ?_
          exact ⟨_, rfl, 0, t126, a126, f126, rfl, s126, (fun c i h => e126 c i (by first | decide | omega)), by omega⟩
        · refine ex_go (S := (70, [(0, gx_r 383), (1, .inl lo), (2, .inl hi)], [], t0, n, 0)) rfl (fun _ => rfl) rfl ?_
          refine ex_go (S := (71, [(0, gx_r 383), (1, .inl lo), (2, .inl hi)], [gx_r 383], t0, n, 0)) rfl (fun _ => rfl) rfl ?_
          refine gx_get rfl s0.1 rfl s0.2.2.1 rfl ?_
          refine gx_1t (c := .le) rfl (by first | decide | omega) (show f ≤ 0 from by omega) rfl ?_
          refine ex_go (S := (80, [(0, gx_r 383), (1, .inl lo), (2, .inl hi)], [gx_r 383], t0, n, 0)) rfl (fun _ => rfl) rfl ?_
          refine ex_go (S := (81, [(0, gx_r 383), (1, .inl lo), (2, .inl hi)], [gx_r 383, gx_r 383], t0, n, 0)) rfl (fun _ => rfl) rfl ?_
          refine gx_get rfl s0.1 rfl s0.2.1 rfl ?_
          refine ex_go (S := (85, [(0, gx_r 383), (1, .inl lo), (2, .inl hi)], [.inl 1, .inl a, gx_r 383], t0, n, 0)) rfl (fun _ => rfl) rfl ?_
          refine ex_iadd rfl (by first | decide | omega) rfl ?_
          refine gx_put rfl s0.1 rfl rfl (ai_in_h (by first | decide | omega) (by first | decide | omega) (by first | decide | omega)) rfl (fun t129 g129 k129 e129 => ?_)
          have k30 : ai_hv t129 385 a = some (.inl (sp_kt S m N a)) := (e129 385 a (by first | decide | omega)).trans k2
          have k31 : ai_hv t129 387 a = some (.inr (.inl (sp_nv S m a))) := (e129 387 a (by first | decide | omega)).trans k4
          have s129 : px_S t129 (a + 1) f := ⟨g129, k129, (e129 383 8 (by first | decide | omega)).trans s0.2.2.1, by omega, s0.2.2.2.2⟩
          refine ex_go (S := (90, [(0, gx_r 383), (1, .inl lo), (2, .inl hi)], [gx_r 383], t129, n, 0)) rfl (fun _ => rfl) rfl ?_
          refine gx_ref (c := 387) rfl s129.1 rfl rfl rfl rfl ?_
          refine ex_go (S := (94, [(0, gx_r 383), (1, .inl lo), (2, .inl hi)], [gx_r 383, gx_r 387], t129, n, 0)) rfl (fun _ => rfl) rfl ?_
          refine gx_get rfl s129.1 rfl s129.2.1 rfl ?_
          refine ex_go (S := (98, [(0, gx_r 383), (1, .inl lo), (2, .inl hi)], [.inl 1, .inl (a + 1), gx_r 387], t129, n, 0)) rfl (fun _ => rfl) rfl ?_
          refine gx_isub rfl (by first | decide | omega) (by first | decide | omega) rfl ?_
          have kv32 : ai_hv t129 387 ((a + 1) - 1) = some (.inr (.inl (sp_nv S m a))) := by rw [show (a + 1) - 1 = a by omega]; exact k31
          refine gx_ag (v := .inr (.inl (sp_nv S m a))) (cb := fun c => Nat.beq c 3) rfl (fun _ => rfl) s129.1 rfl rfl kv32 (by first | decide | omega) rfl ?_
          refine ex_go (S := (101, [(0, gx_r 383), (1, .inl lo), (2, .inl hi)], [.inl ((lN (sp_nv S m a)).toInt32.toBitVec.toNat)], t129, n, 0)) rfl (fun _ => rfl) rfl ?_
          have z33 : (lN (sp_nv S m a)).toInt32.toBitVec.toNat = sp_nv S m a := by
            have h9 := gx_l2i (m := sp_nv S m a) (lo := sp_nv S m a) (hi := sp_nv S m a) (by first | decide | omega) (by first | decide | omega) (by first | decide | omega)
            omega
          rw [z33]
          refine ex_ret (r := (some (.inl (sp_nv S m a)), t129, n, 0)) rfl (fun _ => rfl) ?_
          exact ⟨_, rfl, sp_nv S m a, t129, a + 1, f, rfl, s129, (fun c i h => e129 c i (by first | decide | omega)), by omega⟩
      · refine ex_go (S := (65, [(0, gx_r 383), (1, .inl lo), (2, .inl hi)], [], t0, n, 0)) rfl (fun _ => rfl) rfl ?_
        refine ex_go (S := (66, [(0, gx_r 383), (1, .inl lo), (2, .inl hi)], [gx_r 383], t0, n, 0)) rfl (fun _ => rfl) rfl ?_
        refine ex_go (S := (67, [(0, gx_r 383), (1, .inl lo), (2, .inl hi)], [.inl 4, gx_r 383], t0, n, 0)) rfl (fun _ => rfl) rfl ?_
        obtain ⟨_, r134, t134, a134, f134, rfl, s134, e134, q134⟩ := pe_wrong d n (s0) hT (by first | decide | omega) (w := 4) (by first | decide | omega)
        have b134 := s134.2.2.2
        have hT134 := rT_keep hT (fun c i h => e134 c i (by first | decide | omega))
        refine gx_call0 rfl rfl s0.1 rfl rfl r134 rfl ?_
        have k35 : ai_hv t134 385 a = some (.inl (sp_kt S m N a)) := (e134 385 a (by first | decide | omega)).trans k2
        have k36 : ai_hv t134 387 a = some (.inr (.inl (sp_nv S m a))) := (e134 387 a (by first | decide | omega)).trans k4
        refine ex_go (S := (71, [(0, gx_r 383), (1, .inl lo), (2, .inl hi)], [gx_r 383], t134, n, 0)) rfl (fun _ => rfl) rfl ?_
        refine gx_get rfl s134.1 rfl s134.2.2.1 rfl ?_
        refine gx_1f (c := .le) rfl (by first | decide | omega) (show ¬ (f134 ≤ 0) from by omega) rfl ?_
        refine ex_go (S := (78, [(0, gx_r 383), (1, .inl lo), (2, .inl hi)], [.inl 0], t134, n, 0)) rfl (fun _ => rfl) rfl ?_
        refine ex_ret (r := (some (.inl 0), t134, n, 0)) rfl (fun _ => rfl) ?_
        exact ⟨_, rfl, 0, t134, a134, f134, rfl, s134, (fun c i h => e134 c i (by first | decide | omega)), by omega⟩
    · refine gx_2f (c := .eq) rfl (by first | decide | omega) (by first | decide | omega) hc3 rfl ?_
      refine ex_go (S := (21, [(0, gx_r 383), (1, .inl lo), (2, .inl hi)], [gx_r 383], t0, n, 0)) rfl (fun _ => rfl) rfl ?_
      refine ex_go (S := (22, [(0, gx_r 383), (1, .inl lo), (2, .inl hi)], [.inl 1, gx_r 383], t0, n, 0)) rfl (fun _ => rfl) rfl ?_
      obtain ⟨_, r137, t137, a137, f137, rfl, s137, e137, q137⟩ := pe_wrong d n (s0) hT (by first | decide | omega) (w := 1) (by first | decide | omega)
      have b137 := s137.2.2.2
      have hT137 := rT_keep hT (fun c i h => e137 c i (by first | decide | omega))
      refine gx_call0 rfl rfl s0.1 rfl rfl r137 rfl ?_
      have k38 : ai_hv t137 385 a = some (.inl (sp_kt S m N a)) := (e137 385 a (by first | decide | omega)).trans k2
      refine ex_go (S := (70, [(0, gx_r 383), (1, .inl lo), (2, .inl hi)], [], t137, n, 0)) rfl (fun _ => rfl) rfl ?_
      refine ex_go (S := (71, [(0, gx_r 383), (1, .inl lo), (2, .inl hi)], [gx_r 383], t137, n, 0)) rfl (fun _ => rfl) rfl ?_
      refine gx_get rfl s137.1 rfl s137.2.2.1 rfl ?_
      refine gx_1f (c := .le) rfl (by first | decide | omega) (show ¬ (f137 ≤ 0) from by omega) rfl ?_
      refine ex_go (S := (78, [(0, gx_r 383), (1, .inl lo), (2, .inl hi)], [.inl 0], t137, n, 0)) rfl (fun _ => rfl) rfl ?_
      refine ex_ret (r := (some (.inl 0), t137, n, 0)) rfl (fun _ => rfl) ?_
      exact ⟨_, rfl, 0, t137, a137, f137, rfl, s137, (fun c i h => e137 c i (by first | decide | omega)), by omega⟩
theorem pe_wordHere_l (d n : Nat) {t0 : en_H} {a f w mm : Nat} {S : Nat → Nat} {m N : Nat} (s0 : px_S t0 a f) (hT : rT t0 S m N) (ha : a ≤ N) (hw : w + mm ≤ 42) : ∀ j k b, k + j = mm → ((b < k ∧ f = 0 ∧ sp_wd S m N a (w + b)) ∨ (b = 4294967295 ∧ ∀ j, j < k → ¬ (f = 0 ∧ sp_wd S m N a (w + j)))) → en_ex none (en_u (d + 1)) (en_code 100) (fun _ => false) (5, [(4, .inl k), (3, .inl b), (0, gx_r 383), (1, .inl w), (2, .inl mm)], [], t0, n, 0) (fun o => ∃ r, o = .inl r ∧ ∃ b, r = (some (.inl b), t0, n, 0) ∧ ((b < mm ∧ f = 0 ∧ sp_wd S m N a (w + b)) ∨ (b = 4294967295 ∧ ∀ j, j < mm → ¬ (f = 0 ∧ sp_wd S m N a (w + j))))) := by
  have b0 := s0.2.2.2
  have hN := hT.2.2.2.2.1
  intro j
  induction j with
  | zero =>
    intro k b hk hb
    have hk : k = mm := by omega
    subst hk
    refine ex_go (S := (7, [(4, .inl k), (3, .inl b), (0, gx_r 383), (1, .inl w), (2, .inl k)], [.inl k], t0, n, 0)) rfl (fun _ => rfl) rfl ?_
    refine ex_go (S := (8, [(4, .inl k), (3, .inl b), (0, gx_r 383), (1, .inl w), (2, .inl k)], [.inl k, .inl k], t0, n, 0)) rfl (fun _ => rfl) rfl ?_
    refine gx_2t (c := .ge) rfl (by first | decide | omega) (by first | decide | omega) (show k ≤ k from by omega) rfl ?_
    refine ex_go (S := (36, [(4, .inl k), (3, .inl b), (0, gx_r 383), (1, .inl w), (2, .inl k)], [.inl b], t0, n, 0)) rfl (fun _ => rfl) rfl ?_
    refine ex_ret (r := (some (.inl b), t0, n, 0)) rfl (fun _ => rfl) ?_
    exact ⟨_, rfl, b, rfl, hb⟩
  | succ j ih =>
    intro k b hk hb
    refine ex_go (S := (7, [(4, .inl k), (3, .inl b), (0, gx_r 383), (1, .inl w), (2, .inl mm)], [.inl k], t0, n, 0)) rfl (fun _ => rfl) rfl ?_
    refine ex_go (S := (8, [(4, .inl k), (3, .inl b), (0, gx_r 383), (1, .inl w), (2, .inl mm)], [.inl mm, .inl k], t0, n, 0)) rfl (fun _ => rfl) rfl ?_
    refine gx_2f (c := .ge) rfl (by first | decide | omega) (by first | decide | omega) (show ¬ (mm ≤ k) from by omega) rfl ?_
    refine ex_go (S := (12, [(4, .inl k), (3, .inl b), (0, gx_r 383), (1, .inl w), (2, .inl mm)], [gx_r 383], t0, n, 0)) rfl (fun _ => rfl) rfl ?_
    refine ex_go (S := (13, [(4, .inl k), (3, .inl b), (0, gx_r 383), (1, .inl w), (2, .inl mm)], [.inl w, gx_r 383], t0, n, 0)) rfl (fun _ => rfl) rfl ?_
    refine ex_go (S := (15, [(4, .inl k), (3, .inl b), (0, gx_r 383), (1, .inl w), (2, .inl mm)], [.inl k, .inl w, gx_r 383], t0, n, 0)) rfl (fun _ => rfl) rfl ?_
    refine ex_iadd rfl (by first | decide | omega) rfl ?_
    obtain ⟨_, r3, b1, rfl, q2⟩ := pe_isWord d n (s0) hT (by first | decide | omega) (w := w + k) (by first | decide | omega)
    refine gx_call1 rfl rfl s0.1 rfl rfl r3 rfl ?_
    by_cases hc4 : b1 = 0
    · refine gx_1t (c := .eq) rfl (by first | decide | omega) hc4 rfl ?_
      refine ex_go (S := (28, [(4, .inl k), (3, .inl b), (0, gx_r 383), (1, .inl w), (2, .inl mm)], [.inl b], t0, n, 0)) rfl (fun _ => rfl) rfl ?_
      refine ex_go (S := (29, [(3, .inl b), (4, .inl k), (0, gx_r 383), (1, .inl w), (2, .inl mm)], [], t0, n, 0)) rfl (fun _ => rfl) rfl ?_
      refine gx_iinc (i := 4) (k := 1) rfl (fun _ => rfl) (by first | decide | omega) rfl ?_
      show en_ex _ _ _ _ (32, [(4, .inl (k + 1)), (3, .inl b), (0, gx_r 383), (1, .inl w), (2, .inl mm)], [], t0, n, 0) _
      refine ex_go (S := (5, [(4, .inl (k + 1)), (3, .inl b), (0, gx_r 383), (1, .inl w), (2, .inl mm)], [], t0, n, 0)) rfl (fun _ => rfl) rfl ?_
      refine ih (k + 1) b (by first | decide | omega) ?_
      rcases hb with ⟨z1, z2, z3⟩ | ⟨z1, z2⟩
      · exact Or.inl ⟨by omega, z2, z3⟩
      · refine Or.inr ⟨z1, fun j9 h9 => ?_⟩
        by_cases e : j9 = k
        · rw [e]; exact fun z => absurd (q2.2.mpr z) (by first | decide | omega)
        · exact z2 j9 (by first | decide | omega)
    · refine gx_1f (c := .eq) rfl (by first | decide | omega) hc4 rfl ?_
      refine ex_go (S := (24, [(4, .inl k), (3, .inl b), (0, gx_r 383), (1, .inl w), (2, .inl mm)], [.inl k], t0, n, 0)) rfl (fun _ => rfl) rfl ?_
      refine ex_go (S := (28, [(4, .inl k), (3, .inl b), (0, gx_r 383), (1, .inl w), (2, .inl mm)], [.inl k], t0, n, 0)) rfl (fun _ => rfl) rfl ?_
      refine ex_go (S := (29, [(3, .inl k), (4, .inl k), (0, gx_r 383), (1, .inl w), (2, .inl mm)], [], t0, n, 0)) rfl (fun _ => rfl) rfl ?_
      refine gx_iinc (i := 4) (k := 1) rfl (fun _ => rfl) (by first | decide | omega) rfl ?_
      show en_ex _ _ _ _ (32, [(4, .inl (k + 1)), (3, .inl k), (0, gx_r 383), (1, .inl w), (2, .inl mm)], [], t0, n, 0) _
      refine ex_go (S := (5, [(4, .inl (k + 1)), (3, .inl k), (0, gx_r 383), (1, .inl w), (2, .inl mm)], [], t0, n, 0)) rfl (fun _ => rfl) rfl ?_
      exact ih (k + 1) k (by first | decide | omega) (Or.inl ⟨by omega, (q2.2.mp (by first | decide | omega)).1, (q2.2.mp (by first | decide | omega)).2⟩)
theorem pe_wordHere (d n : Nat) {t0 : en_H} {a f w mm : Nat} {S : Nat → Nat} {m N : Nat} (s0 : px_S t0 a f) (hT : rT t0 S m N) (ha : a ≤ N) (hw : w + mm ≤ 42) : ∃ r, en_u (d + 2) 100 [gx_r 383, .inl w, .inl mm] t0 n = some r ∧ ∃ b, r = (some (.inl b), t0, n, 0) ∧ ((b < mm ∧ f = 0 ∧ sp_wd S m N a (w + b)) ∨ (b = 4294967295 ∧ ∀ j, j < mm → ¬ (f = 0 ∧ sp_wd S m N a (w + j)))) := by
  have b0 := s0.2.2.2
  have hN := hT.2.2.2.2.1
  refine en_u_ex (d := d + 1) rfl ?_
  show en_ex _ _ _ _ (0, [(0, gx_r 383), (1, .inl w), (2, .inl mm)], [], t0, n, 0) _
  refine ex_go (S := (1, [(0, gx_r 383), (1, .inl w), (2, .inl mm)], [.inl 4294967295], t0, n, 0)) rfl (fun _ => rfl) rfl ?_
  refine ex_go (S := (2, [(3, .inl 4294967295), (0, gx_r 383), (1, .inl w), (2, .inl mm)], [], t0, n, 0)) rfl (fun _ => rfl) rfl ?_
  refine ex_go (S := (3, [(3, .inl 4294967295), (0, gx_r 383), (1, .inl w), (2, .inl mm)], [.inl 0], t0, n, 0)) rfl (fun _ => rfl) rfl ?_
  refine ex_go (S := (5, [(4, .inl 0), (3, .inl 4294967295), (0, gx_r 383), (1, .inl w), (2, .inl mm)], [], t0, n, 0)) rfl (fun _ => rfl) rfl ?_
  exact pe_wordHere_l d n s0 hT ha hw mm 0 _ (by first | decide | omega) (Or.inr ⟨rfl, fun j9 h9 => by omega⟩)
theorem pe_takeOne (d n : Nat) {t0 : en_H} {a f w mm : Nat} {S : Nat → Nat} {m N : Nat} (s0 : px_S t0 a f) (hT : rT t0 S m N) (ha : a ≤ N) (hw : w + mm ≤ 42) : ∃ r, en_u (d + 3) 241 [gx_r 383, .inl w, .inl mm] t0 n = some r ∧ ∃ v t' a' f', r = (some (.inl v), t', n, 0) ∧ px_S t' a' f' ∧ px_F t0 t' ∧ ((f ≠ 0 → f' = f ∧ a' = a ∧ v = 0) ∧ (f = 0 → (v < mm ∧ sp_wd S m N a (w + v) ∧ f' = 0 ∧ a' = a + 1) ∨ ((∀ j, j < mm → ¬ sp_wd S m N a (w + j)) ∧ f' = 1 + 16 * sp_st S m a ∧ a' = a ∧ v = 0))) := by
  have b0 := s0.2.2.2
  have hN := hT.2.2.2.2.1
  refine en_u_ex (d := d + 2) rfl ?_
  show en_ex _ _ _ _ (0, [(0, gx_r 383), (1, .inl w), (2, .inl mm)], [], t0, n, 0) _
  refine ex_go (S := (1, [(0, gx_r 383), (1, .inl w), (2, .inl mm)], [gx_r 383], t0, n, 0)) rfl (fun _ => rfl) rfl ?_
  refine gx_get rfl s0.1 rfl s0.2.2.1 rfl ?_
  by_cases hc1 : f ≤ 0
  · refine gx_1t (c := .le) rfl (by first | decide | omega) hc1 rfl ?_
    refine ex_go (S := (12, [(0, gx_r 383), (1, .inl w), (2, .inl mm)], [gx_r 383], t0, n, 0)) rfl (fun _ => rfl) rfl ?_
    refine ex_go (S := (13, [(0, gx_r 383), (1, .inl w), (2, .inl mm)], [.inl w, gx_r 383], t0, n, 0)) rfl (fun _ => rfl) rfl ?_
    refine ex_go (S := (14, [(0, gx_r 383), (1, .inl w), (2, .inl mm)], [.inl mm, .inl w, gx_r 383], t0, n, 0)) rfl (fun _ => rfl) rfl ?_
    obtain ⟨_, r4, b2, rfl, q3⟩ := pe_wordHere d n (s0) hT (by first | decide | omega) (w := w) (mm := mm) (by first | decide | omega)
    refine gx_call1 rfl rfl s0.1 rfl rfl r4 rfl ?_
    rcases q3 with ⟨hn5a, hn5b, hn5c⟩ | ⟨hn5a, hn5b⟩
    · have hlt9 : a < N := hn5c.1
      refine ex_go (S := (18, [(3, .inl b2), (0, gx_r 383), (1, .inl w), (2, .inl mm)], [], t0, n, 0)) rfl (fun _ => rfl) rfl ?_
      refine ex_go (S := (19, [(3, .inl b2), (0, gx_r 383), (1, .inl w), (2, .inl mm)], [gx_r 383], t0, n, 0)) rfl (fun _ => rfl) rfl ?_
      refine gx_get rfl s0.1 rfl s0.2.2.1 rfl ?_
      refine gx_1f (c := .ne) rfl (by first | decide | omega) (show ¬ (f ≠ 0) from by omega) rfl ?_
      refine ex_go (S := (26, [(3, .inl b2), (0, gx_r 383), (1, .inl w), (2, .inl mm)], [.inl b2], t0, n, 0)) rfl (fun _ => rfl) rfl ?_
      by_cases hc6 : 0 ≤ b2
      · refine gx_1t (c := .ge) rfl (by first | decide | omega) hc6 rfl ?_
        refine ex_go (S := (35, [(3, .inl b2), (0, gx_r 383), (1, .inl w), (2, .inl mm)], [gx_r 383], t0, n, 0)) rfl (fun _ => rfl) rfl ?_
        refine ex_go (S := (36, [(3, .inl b2), (0, gx_r 383), (1, .inl w), (2, .inl mm)], [gx_r 383, gx_r 383], t0, n, 0)) rfl (fun _ => rfl) rfl ?_
        refine gx_get rfl s0.1 rfl s0.2.1 rfl ?_
        refine ex_go (S := (40, [(3, .inl b2), (0, gx_r 383), (1, .inl w), (2, .inl mm)], [gx_r 383, .inl a, gx_r 383], t0, n, 0)) rfl (fun _ => rfl) rfl ?_
        refine gx_get rfl s0.1 rfl s0.2.2.1 rfl ?_
        refine gx_1t (c := .le) rfl (by first | decide | omega) (show f ≤ 0 from by omega) rfl ?_
        refine ex_go (S := (51, [(3, .inl b2), (0, gx_r 383), (1, .inl w), (2, .inl mm)], [.inl 1, .inl a, gx_r 383], t0, n, 0)) rfl (fun _ => rfl) rfl ?_
        refine ex_iadd rfl (by first | decide | omega) rfl ?_
        refine gx_put rfl s0.1 rfl rfl (ai_in_h (by first | decide | omega) (by first | decide | omega) (by first | decide | omega)) rfl (fun t107 g107 k107 e107 => ?_)
        have s107 : px_S t107 (a + 1) f := ⟨g107, k107, (e107 383 8 (by first | decide | omega)).trans s0.2.2.1, by omega, s0.2.2.2.2⟩
        refine ex_go (S := (56, [(3, .inl b2), (0, gx_r 383), (1, .inl w), (2, .inl mm)], [gx_r 383], t107, n, 0)) rfl (fun _ => rfl) rfl ?_
        refine gx_get rfl s107.1 rfl s107.2.2.1 rfl ?_
        refine gx_1t (c := .le) rfl (by first | decide | omega) (show f ≤ 0 from by omega) rfl ?_
        refine ex_go (S := (67, [(3, .inl b2), (0, gx_r 383), (1, .inl w), (2, .inl mm)], [.inl b2], t107, n, 0)) rfl (fun _ => rfl) rfl ?_
        refine ex_ret (r := (some (.inl b2), t107, n, 0)) rfl (fun _ => rfl) ?_
        exact ⟨_, rfl, b2, t107, a + 1, f, rfl, s107, (fun c i h => e107 c i (by first | decide | omega)), ⟨fun hf => by omega, fun hf => Or.inl ⟨hn5a, hn5c, by omega⟩⟩⟩
      · refine gx_1f (c := .ge) rfl (by first | decide | omega) hc6 rfl ?_
        refine ex_go (S := (30, [(3, .inl b2), (0, gx_r 383), (1, .inl w), (2, .inl mm)], [gx_r 383], t0, n, 0)) rfl (fun _ => rfl) rfl ?_
        refine ex_go (S := (31, [(3, .inl b2), (0, gx_r 383), (1, .inl w), (2, .inl mm)], [.inl 1, gx_r 383], t0, n, 0)) rfl (fun _ => rfl) rfl ?_
        obtain ⟨_, r108, t108, a108, f108, rfl, s108, e108, q108⟩ := pe_wrong (d + 1) n (s0) hT (by first | decide | omega) (w := 1) (by first | decide | omega)
        have b108 := s108.2.2.2
        have hT108 := rT_keep hT (fun c i h => e108 c i (by first | decide | omega))
        refine gx_call0 rfl rfl s0.1 rfl rfl r108 rfl ?_
        refine ex_go (S := (35, [(3, .inl b2), (0, gx_r 383), (1, .inl w), (2, .inl mm)], [gx_r 383], t108, n, 0)) rfl (fun _ => rfl) rfl ?_
        refine ex_go (S := (36, [(3, .inl b2), (0, gx_r 383), (1, .inl w), (2, .inl mm)], [gx_r 383, gx_r 383], t108, n, 0)) rfl (fun _ => rfl) rfl ?_
        refine gx_get rfl s108.1 rfl s108.2.1 rfl ?_
        refine ex_go (S := (40, [(3, .inl b2), (0, gx_r 383), (1, .inl w), (2, .inl mm)], [gx_r 383, .inl a108, gx_r 383], t108, n, 0)) rfl (fun _ => rfl) rfl ?_
        refine gx_get rfl s108.1 rfl s108.2.2.1 rfl ?_
        refine gx_1f (c := .le) rfl (by first | decide | omega) (show ¬ (f108 ≤ 0) from by omega) rfl ?_
        refine ex_go (S := (47, [(3, .inl b2), (0, gx_r 383), (1, .inl w), (2, .inl mm)], [.inl 0, .inl a108, gx_r 383], t108, n, 0)) rfl (fun _ => rfl) rfl ?_
        refine ex_go (S := (51, [(3, .inl b2), (0, gx_r 383), (1, .inl w), (2, .inl mm)], [.inl 0, .inl a108, gx_r 383], t108, n, 0)) rfl (fun _ => rfl) rfl ?_
        refine ex_iadd rfl (by first | decide | omega) rfl ?_
        refine gx_put rfl s108.1 rfl rfl (ai_in_h (by first | decide | omega) (by first | decide | omega) (by first | decide | omega)) rfl (fun t109 g109 k109 e109 => ?_)
        have s109 : px_S t109 (a108 + 0) f108 := ⟨g109, k109, (e109 383 8 (by first | decide | omega)).trans s108.2.2.1, by omega, s108.2.2.2.2⟩
        refine ex_go (S := (56, [(3, .inl b2), (0, gx_r 383), (1, .inl w), (2, .inl mm)], [gx_r 383], t109, n, 0)) rfl (fun _ => rfl) rfl ?_
        refine gx_get rfl s109.1 rfl s109.2.2.1 rfl ?_
        refine gx_1f (c := .le) rfl (by first | decide | omega) (show ¬ (f108 ≤ 0) from by omega) rfl ?_
        refine ex_go (S := (63, [(3, .inl b2), (0, gx_r 383), (1, .inl w), (2, .inl mm)], [.inl 0], t109, n, 0)) rfl (fun _ => rfl) rfl ?_
        refine ex_go (S := (67, [(3, .inl b2), (0, gx_r 383), (1, .inl w), (2, .inl mm)], [.inl 0], t109, n, 0)) rfl (fun _ => rfl) rfl ?_
        refine ex_ret (r := (some (.inl 0), t109, n, 0)) rfl (fun _ => rfl) ?_
        exact ⟨_, rfl, 0, t109, a108 + 0, f108, rfl, s109, (fun c i h => (e109 c i (by first | decide | omega)).trans (e108 c i (by first | decide | omega))), ⟨fun hf => by omega, fun hf => by omega⟩⟩
    · subst hn5a
      refine ex_go (S := (18, [(3, .inl 4294967295), (0, gx_r 383), (1, .inl w), (2, .inl mm)], [], t0, n, 0)) rfl (fun _ => rfl) rfl ?_
      refine ex_go (S := (19, [(3, .inl 4294967295), (0, gx_r 383), (1, .inl w), (2, .inl mm)], [gx_r 383], t0, n, 0)) rfl (fun _ => rfl) rfl ?_
      refine gx_get rfl s0.1 rfl s0.2.2.1 rfl ?_
      refine gx_1f (c := .ne) rfl (by first | decide | omega) (show ¬ (f ≠ 0) from by omega) rfl ?_
      refine ex_go (S := (26, [(3, .inl 4294967295), (0, gx_r 383), (1, .inl w), (2, .inl mm)], [.inl 4294967295], t0, n, 0)) rfl (fun _ => rfl) rfl ?_
      refine ex_go (S := (29, [(3, .inl 4294967295), (0, gx_r 383), (1, .inl w), (2, .inl mm)], [], t0, n, 0)) rfl (fun _ => rfl) rfl ?_
      refine ex_go (S := (30, [(3, .inl 4294967295), (0, gx_r 383), (1, .inl w), (2, .inl mm)], [gx_r 383], t0, n, 0)) rfl (fun _ => rfl) rfl ?_
      refine ex_go (S := (31, [(3, .inl 4294967295), (0, gx_r 383), (1, .inl w), (2, .inl mm)], [.inl 1, gx_r 383], t0, n, 0)) rfl (fun _ => rfl) rfl ?_
      obtain ⟨_, r110, t110, a110, f110, rfl, s110, e110, q110⟩ := pe_wrong (d + 1) n (s0) hT (by first | decide | omega) (w := 1) (by first | decide | omega)
      have b110 := s110.2.2.2
      have hT110 := rT_keep hT (fun c i h => e110 c i (by first | decide | omega))
      refine gx_call0 rfl rfl s0.1 rfl rfl r110 rfl ?_
      refine ex_go (S := (35, [(3, .inl 4294967295), (0, gx_r 383), (1, .inl w), (2, .inl mm)], [gx_r 383], t110, n, 0)) rfl (fun _ => rfl) rfl ?_
      refine ex_go (S := (36, [(3, .inl 4294967295), (0, gx_r 383), (1, .inl w), (2, .inl mm)], [gx_r 383, gx_r 383], t110, n, 0)) rfl (fun _ => rfl) rfl ?_
      refine gx_get rfl s110.1 rfl s110.2.1 rfl ?_
      refine ex_go (S := (40, [(3, .inl 4294967295), (0, gx_r 383), (1, .inl w), (2, .inl mm)], [gx_r 383, .inl a110, gx_r 383], t110, n, 0)) rfl (fun _ => rfl) rfl ?_
      refine gx_get rfl s110.1 rfl s110.2.2.1 rfl ?_
      refine gx_1f (c := .le) rfl (by first | decide | omega) (show ¬ (f110 ≤ 0) from by omega) rfl ?_
      refine ex_go (S := (47, [(3, .inl 4294967295), (0, gx_r 383), (1, .inl w), (2, .inl mm)], [.inl 0, .inl a110, gx_r 383], t110, n, 0)) rfl (fun _ => rfl) rfl ?_
      refine ex_go (S := (51, [(3, .inl 4294967295), (0, gx_r 383), (1, .inl w), (2, .inl mm)], [.inl 0, .inl a110, gx_r 383], t110, n, 0)) rfl (fun _ => rfl) rfl ?_
      refine ex_iadd rfl (by first | decide | omega) rfl ?_
      refine gx_put rfl s110.1 rfl rfl (ai_in_h (by first | decide | omega) (by first | decide | omega) (by first | decide | omega)) rfl (fun t111 g111 k111 e111 => ?_)
      have s111 : px_S t111 (a110 + 0) f110 := ⟨g111, k111, (e111 383 8 (by first | decide | omega)).trans s110.2.2.1, by omega, s110.2.2.2.2⟩
      refine ex_go (S := (56, [(3, .inl 4294967295), (0, gx_r 383), (1, .inl w), (2, .inl mm)], [gx_r 383], t111, n, 0)) rfl (fun _ => rfl) rfl ?_
      refine gx_get rfl s111.1 rfl s111.2.2.1 rfl ?_
      refine gx_1f (c := .le) rfl (by first | decide | omega) (show ¬ (f110 ≤ 0) from by omega) rfl ?_
      refine ex_go (S := (63, [(3, .inl 4294967295), (0, gx_r 383), (1, .inl w), (2, .inl mm)], [.inl 0], t111, n, 0)) rfl (fun _ => rfl) rfl ?_
      refine ex_go (S := (67, [(3, .inl 4294967295), (0, gx_r 383), (1, .inl w), (2, .inl mm)], [.inl 0], t111, n, 0)) rfl (fun _ => rfl) rfl ?_
      refine ex_ret (r := (some (.inl 0), t111, n, 0)) rfl (fun _ => rfl) ?_
      exact ⟨_, rfl, 0, t111, a110 + 0, f110, rfl, s111, (fun c i h => (e111 c i (by first | decide | omega)).trans (e110 c i (by first | decide | omega))), ⟨fun hf => by omega, fun hf => Or.inr ⟨fun j9 h9 z => hn5b j9 h9 ⟨hf, z⟩, by omega⟩⟩⟩
  · refine gx_1f (c := .le) rfl (by first | decide | omega) hc1 rfl ?_
    refine ex_go (S := (8, [(0, gx_r 383), (1, .inl w), (2, .inl mm)], [.inl 4294967295], t0, n, 0)) rfl (fun _ => rfl) rfl ?_
    refine ex_go (S := (17, [(0, gx_r 383), (1, .inl w), (2, .inl mm)], [.inl 4294967295], t0, n, 0)) rfl (fun _ => rfl) rfl ?_
    refine ex_go (S := (18, [(3, .inl 4294967295), (0, gx_r 383), (1, .inl w), (2, .inl mm)], [], t0, n, 0)) rfl (fun _ => rfl) rfl ?_
    refine ex_go (S := (19, [(3, .inl 4294967295), (0, gx_r 383), (1, .inl w), (2, .inl mm)], [gx_r 383], t0, n, 0)) rfl (fun _ => rfl) rfl ?_
    refine gx_get rfl s0.1 rfl s0.2.2.1 rfl ?_
    refine gx_1t (c := .ne) rfl (by first | decide | omega) (show f ≠ 0 from by omega) rfl ?_
    refine ex_go (S := (35, [(3, .inl 4294967295), (0, gx_r 383), (1, .inl w), (2, .inl mm)], [gx_r 383], t0, n, 0)) rfl (fun _ => rfl) rfl ?_
    refine ex_go (S := (36, [(3, .inl 4294967295), (0, gx_r 383), (1, .inl w), (2, .inl mm)], [gx_r 383, gx_r 383], t0, n, 0)) rfl (fun _ => rfl) rfl ?_
    refine gx_get rfl s0.1 rfl s0.2.1 rfl ?_
    refine ex_go (S := (40, [(3, .inl 4294967295), (0, gx_r 383), (1, .inl w), (2, .inl mm)], [gx_r 383, .inl a, gx_r 383], t0, n, 0)) rfl (fun _ => rfl) rfl ?_
    refine gx_get rfl s0.1 rfl s0.2.2.1 rfl ?_
    refine gx_1f (c := .le) rfl (by first | decide | omega) (show ¬ (f ≤ 0) from by omega) rfl ?_
    refine ex_go (S := (47, [(3, .inl 4294967295), (0, gx_r 383), (1, .inl w), (2, .inl mm)], [.inl 0, .inl a, gx_r 383], t0, n, 0)) rfl (fun _ => rfl) rfl ?_
    refine ex_go (S := (51, [(3, .inl 4294967295), (0, gx_r 383), (1, .inl w), (2, .inl mm)], [.inl 0, .inl a, gx_r 383], t0, n, 0)) rfl (fun _ => rfl) rfl ?_
    refine ex_iadd rfl (by first | decide | omega) rfl ?_
    refine gx_put rfl s0.1 rfl rfl (ai_in_h (by first | decide | omega) (by first | decide | omega) (by first | decide | omega)) rfl (fun t112 g112 k112 e112 => ?_)
    have s112 : px_S t112 (a + 0) f := ⟨g112, k112, (e112 383 8 (by first | decide | omega)).trans s0.2.2.1, by omega, s0.2.2.2.2⟩
    refine ex_go (S := (56, [(3, .inl 4294967295), (0, gx_r 383), (1, .inl w), (2, .inl mm)], [gx_r 383], t112, n, 0)) rfl (fun _ => rfl) rfl ?_
    refine gx_get rfl s112.1 rfl s112.2.2.1 rfl ?_
    refine gx_1f (c := .le) rfl (by first | decide | omega) (show ¬ (f ≤ 0) from by omega) rfl ?_
    refine ex_go (S := (63, [(3, .inl 4294967295), (0, gx_r 383), (1, .inl w), (2, .inl mm)], [.inl 0], t112, n, 0)) rfl (fun _ => rfl) rfl ?_
    refine ex_go (S := (67, [(3, .inl 4294967295), (0, gx_r 383), (1, .inl w), (2, .inl mm)], [.inl 0], t112, n, 0)) rfl (fun _ => rfl) rfl ?_
    refine ex_ret (r := (some (.inl 0), t112, n, 0)) rfl (fun _ => rfl) ?_
    exact ⟨_, rfl, 0, t112, a + 0, f, rfl, s112, (fun c i h => e112 c i (by first | decide | omega)), ⟨fun hf => by omega, fun hf => by omega⟩⟩
/-- the token a is a name: a word, none of those that are kept -/
noncomputable def sp_nm (S : Nat → Nat) (m N a : Nat) : Prop := sp_kt S m N a = 1 ∧ ∀ j, j < 38 → ¬ sp_wd S m N a j
theorem pe_isName (d n : Nat) {t0 : en_H} {a f : Nat} {S : Nat → Nat} {m N : Nat} (s0 : px_S t0 a f) (hT : rT t0 S m N) (ha : a ≤ N) : ∃ r, en_u (d + 3) 245 [gx_r 383] t0 n = some r ∧ ∃ b, r = (some (.inl b), t0, n, 0) ∧ (b ≤ 1 ∧ (b = 1 ↔ f = 0 ∧ sp_nm S m N a)) := by
  have b0 := s0.2.2.2
  have hN := hT.2.2.2.2.1
  refine en_u_ex (d := d + 2) rfl ?_
  show en_ex _ _ _ _ (0, [(0, gx_r 383)], [], t0, n, 0) _
  refine ex_go (S := (1, [(0, gx_r 383)], [gx_r 383], t0, n, 0)) rfl (fun _ => rfl) rfl ?_
  refine gx_get rfl s0.1 rfl s0.2.2.1 rfl ?_
  by_cases hc1 : f ≠ 0
  · refine gx_1t (c := .ne) rfl (by first | decide | omega) hc1 rfl ?_
    refine ex_go (S := (35, [(0, gx_r 383)], [.inl 0], t0, n, 0)) rfl (fun _ => rfl) rfl ?_
    refine ex_ret (r := (some (.inl 0), t0, n, 0)) rfl (fun _ => rfl) ?_
    exact ⟨_, rfl, 0, rfl, by decide, ⟨fun z => absurd z (by decide), fun z => by have z1 := z.1; have z2 : sp_kt S m N a = 1 := z.2.1; omega⟩⟩
  · refine gx_1f (c := .ne) rfl (by first | decide | omega) hc1 rfl ?_
    refine ex_go (S := (8, [(0, gx_r 383)], [gx_r 383], t0, n, 0)) rfl (fun _ => rfl) rfl ?_
    refine gx_ref (c := 385) rfl s0.1 rfl rfl rfl rfl ?_
    refine ex_go (S := (12, [(0, gx_r 383)], [gx_r 383, gx_r 385], t0, n, 0)) rfl (fun _ => rfl) rfl ?_
    refine gx_get rfl s0.1 rfl s0.2.1 rfl ?_
    have k2 := rT_sort hT (a := a) (by first | decide | omega)
    have k2b : sp_kt S m N a ≤ 4 := by unfold sp_kt; have := sp_ty_le S m (sp_st S m a); split <;> omega
    refine gx_ag (v := .inl (sp_kt S m N a)) (cb := fun c => Nat.beq c 0) rfl (fun _ => rfl) s0.1 rfl rfl k2 (by first | decide | omega) rfl ?_
    refine ex_go (S := (17, [(0, gx_r 383)], [.inl 1, .inl (sp_kt S m N a)], t0, n, 0)) rfl (fun _ => rfl) rfl ?_
    by_cases hc3 : sp_kt S m N a ≠ 1
    · refine gx_2t (c := .ne) rfl (by first | decide | omega) (by first | decide | omega) hc3 rfl ?_
      refine ex_go (S := (35, [(0, gx_r 383)], [.inl 0], t0, n, 0)) rfl (fun _ => rfl) rfl ?_
      refine ex_ret (r := (some (.inl 0), t0, n, 0)) rfl (fun _ => rfl) ?_
      exact ⟨_, rfl, 0, rfl, by decide, ⟨fun z => absurd z (by decide), fun z => by have z1 := z.1; have z2 : sp_kt S m N a = 1 := z.2.1; omega⟩⟩
    · refine gx_2f (c := .ne) rfl (by first | decide | omega) (by first | decide | omega) hc3 rfl ?_
      refine ex_go (S := (21, [(0, gx_r 383)], [gx_r 383], t0, n, 0)) rfl (fun _ => rfl) rfl ?_
      refine ex_go (S := (22, [(0, gx_r 383)], [.inl 0, gx_r 383], t0, n, 0)) rfl (fun _ => rfl) rfl ?_
      refine ex_go (S := (24, [(0, gx_r 383)], [.inl 38, .inl 0, gx_r 383], t0, n, 0)) rfl (fun _ => rfl) rfl ?_
      obtain ⟨_, r6, b4, rfl, q5⟩ := pe_wordHere d n (s0) hT (by first | decide | omega) (w := 0) (mm := 38) (by first | decide | omega)
      refine gx_call1 rfl rfl s0.1 rfl rfl r6 rfl ?_
      rcases q5 with ⟨hn7a, hn7b, hn7c⟩ | ⟨hn7a, hn7b⟩
      · have hlt9 : a < N := hn7c.1
        refine gx_1t (c := .ge) rfl (by first | decide | omega) (show 0 ≤ b4 from by omega) rfl ?_
        refine ex_go (S := (35, [(0, gx_r 383)], [.inl 0], t0, n, 0)) rfl (fun _ => rfl) rfl ?_
        refine ex_ret (r := (some (.inl 0), t0, n, 0)) rfl (fun _ => rfl) ?_
        exact ⟨_, rfl, 0, rfl, by decide, ⟨fun z => absurd z (by decide), fun z => absurd (show sp_wd S m N a _ from by have h9 := hn7c; rw [Nat.zero_add] at h9; exact h9) (z.2.2 _ hn7a)⟩⟩
      · subst hn7a
        refine ex_go (S := (30, [(0, gx_r 383)], [], t0, n, 0)) rfl (fun _ => rfl) rfl ?_
        refine ex_go (S := (31, [(0, gx_r 383)], [.inl 1], t0, n, 0)) rfl (fun _ => rfl) rfl ?_
        refine ex_go (S := (35, [(0, gx_r 383)], [.inl 1], t0, n, 0)) rfl (fun _ => rfl) rfl ?_
        refine ex_ret (r := (some (.inl 1), t0, n, 0)) rfl (fun _ => rfl) ?_
        exact ⟨_, rfl, 1, rfl, by decide, ⟨fun _ => ⟨by omega, by omega, fun j9 h9 z => hn7b j9 h9 ⟨by omega, by rw [Nat.zero_add]; exact z⟩⟩, fun _ => rfl⟩⟩
end SPI
