section PKK
/-! ### the heap as the law's loop finds it first -/
noncomputable def hg_r (v : en_V) (c : Nat) : Bool := match v with
  | .inr (.inr (.inl none)) => Nat.beq c 0
  | .inr (.inr (.inl (some k))) => Nat.beq c (k + 100) || ((Nat.ble 48 c && Nat.blt c 100) && ai_mem k (ai_set (c - 48)))
  | .inr (.inr (.inr (.inl (j + 1)))) => Nat.beq c (j + 2) && Nat.blt j 46
  | _ => false
theorem hg_r_ok {v : en_V} {c : Nat} (h : hg_r v c = true) : ai_rc c v := by
  unfold hg_r at h
  split at h
  · exact Or.inl ⟨Nat.eq_of_beq_eq_true h, rfl⟩
  · rename_i k
    rw [Bool.or_eq_true] at h
    rcases h with h | h
    · exact Or.inr (Or.inr (Or.inr (Or.inl ⟨k, Nat.eq_of_beq_eq_true h, rfl⟩)))
    · simp only [Bool.and_eq_true] at h
      have h1 := Nat.le_of_ble_eq_true h.1.1
      have h2 : c < 100 := Nat.le_of_ble_eq_true h.1.2
      exact Or.inr (Or.inr (Or.inr (Or.inr ⟨c - 48, k, by omega, by omega, ai_mem_ok h.2, rfl⟩)))
  · rename_i j
    rw [Bool.and_eq_true] at h
    exact Or.inr (Or.inr (Or.inl ⟨j, Nat.eq_of_beq_eq_true h.1, Nat.le_of_ble_eq_true h.2, rfl⟩))
  · cases h
noncomputable def hg_v (h : ai_h) (v : en_V) : Bool := match h, v with
  | .inl p, .inl m => Nat.blt m 4294967296 && (Nat.ble p.1 ((m + 2147483648) % 4294967296) && Nat.ble ((m + 2147483648) % 4294967296) p.2)
  | .inr (.inl _), .inr (.inl _) => true
  | .inr (.inr cs), v => ai_any (hg_r v) cs
  | _, _ => false
theorem hg_v_ok {h : ai_h} {v : en_V} (hh : hg_v h v = true) : ai_rh h v := by
  unfold hg_v at hh
  split at hh
  · simp only [Bool.and_eq_true] at hh
    exact ⟨_, rfl, Nat.le_of_ble_eq_true hh.1, Nat.le_of_ble_eq_true hh.2.1, Nat.le_of_ble_eq_true hh.2.2⟩
  · exact ⟨_, rfl⟩
  · obtain ⟨c, h1, h2⟩ := ai_any_ok hh
    exact ⟨c, h1, hg_r_ok h2⟩
  · cases hh
noncomputable def hg_s (rs : List (Nat × ai_h)) (vs : List en_V) : Nat → Bool := List.rec (motive := fun _ => Nat → Bool) (fun _ => true) (fun v _ ih i => bif (match ai_run rs i with | some h => hg_v h v | none => false) then ih (i + 1) else false) vs
theorem hg_s_ok {rs : List (Nat × ai_h)} : ∀ {vs : List en_V} {i : Nat}, hg_s rs vs i = true → ∀ j v, vs[j]? = some v → ∃ h, ai_run rs (i + j) = some h ∧ ai_rh h v
  | [], i, _, j, v, hv => by cases hv
  | w :: vs, i, h, j, v, hv => by
    have h : (bif (match ai_run rs i with | some h => hg_v h w | none => false) then hg_s rs vs (i + 1) else false) = true := h
    cases c : (match ai_run rs i with | some h => hg_v h w | none => false) with
    | false => rw [c] at h; cases h
    | true =>
      rw [c] at h
      cases j with
      | zero =>
        have hv : some w = some v := hv
        cases hv
        split at c
        · rename_i h9 hh
          exact ⟨h9, hh, hg_v_ok c⟩
        · cases c
      | succ j =>
        obtain ⟨h9, k1, k2⟩ := hg_s_ok (i := i + 1) h j v hv
        exact ⟨h9, by rw [← k1]; congr 1; omega, k2⟩
noncomputable def hg_c (g : ai_g) : Option en_C → Bool
  | some (.inl q) => g.1 && (Nat.beq q.1 g.2.1 && (Nat.beq (en_len q.2) g.2.2.1 && hg_s g.2.2.2 q.2 0))
  | some (.inr q) => (!g.1) && (Nat.beq q.1 g.2.1 && (Nat.beq (en_len q.2) g.2.2.1 && hg_s g.2.2.2 q.2 0))
  | none => false
theorem hg_c_ok {g : ai_g} {t : en_H} {c : Nat} (h : hg_c g (en_get t c) = true) : ai_cell g t c := by
  cases hg : en_get t c with
  | none => rw [hg] at h; cases h
  | some d =>
    rw [hg] at h
    obtain ⟨b, k, m, rs⟩ := g
    cases d with
    | inl q =>
      obtain ⟨q1, q2⟩ := q
      have h : (b && (Nat.beq q1 k && (Nat.beq (en_len q2) m && hg_s rs q2 0))) = true := h
      simp only [Bool.and_eq_true] at h
      obtain ⟨h1, h2, h3, h4⟩ := h
      subst h1
      have e1 := Nat.eq_of_beq_eq_true h2
      have e2 := Nat.eq_of_beq_eq_true h3
      subst e1
      rw [en_len_eq] at e2
      refine ⟨q2, hg, e2, fun j v hv => ?_⟩
      obtain ⟨h9, k1, k2⟩ := hg_s_ok h4 j v hv
      rw [Nat.zero_add] at k1
      exact ⟨h9, k1, k2⟩
    | inr q =>
      obtain ⟨q1, q2⟩ := q
      have h : ((!b) && (Nat.beq q1 k && (Nat.beq (en_len q2) m && hg_s rs q2 0))) = true := h
      simp only [Bool.and_eq_true] at h
      obtain ⟨h1, h2, h3, h4⟩ := h
      have h1 : b = false := by cases b <;> simp_all
      subst h1
      have e1 := Nat.eq_of_beq_eq_true h2
      have e2 := Nat.eq_of_beq_eq_true h3
      subst e1
      rw [en_len_eq] at e2
      refine ⟨q2, hg, e2, fun j v hv => ?_⟩
      obtain ⟨h9, k1, k2⟩ := hg_s_ok h4 j v hv
      rw [Nat.zero_add] at k1
      exact ⟨h9, k1, k2⟩
noncomputable def hg_a (c : Nat) : Bool := match ah_G c with
  | some g => hg_c g (en_get en_t0 c)
  | none => true
set_option maxRecDepth 1000000 in
theorem hg_all : ha_all hg_a 413 = true := by decide +kernel
theorem ah_G_lt {c : Nat} {g : ai_g} (h : ah_G c = some g) : c < 413 := by
  rcases Nat.lt_or_ge c 413 with h1 | h1
  · exact h1
  · exfalso
    have h : (bif Nat.ble c 382 then ag_G0 c else bif Nat.beq c 412 then some ah_412 else ah_G0 c) = some g := h
    have e1 : Nat.ble c 382 = false := Bool.eq_false_iff.mpr (fun z => by have := Nat.le_of_ble_eq_true z; omega)
    have e2 : Nat.beq c 412 = false := Bool.eq_false_iff.mpr (fun z => by have := Nat.eq_of_beq_eq_true z; omega)
    rw [e1, e2] at h
    have h : ah_G0 c = some g := h
    have e3 : ∀ k, k < 413 → Nat.ble c k = false := fun k hk => Bool.eq_false_iff.mpr (fun z => by have := Nat.le_of_ble_eq_true z; omega)
    have e4 : ∀ k, k < 413 → Nat.beq c k = false := fun k hk => Bool.eq_false_iff.mpr (fun z => by have := Nat.eq_of_beq_eq_true z; omega)
    unfold ah_G0 at h
    simp [e3, e4] at h
theorem hg_t0 : ai_HG ah_G en_t0 := fun c g hc => by
  have h := ha_all_ok hg_all c (ah_G_lt hc)
  unfold hg_a at h
  rw [hc] at h
  exact hg_c_ok h
noncomputable def hg_z (c b st k : Nat) : Bool := match ai_hv en_t0 c (b + st * k) with
  | some (.inl m) => Nat.beq m 0
  | _ => false
theorem hg_z_ok {c b st m : Nat} (h : ha_all (hg_z c b st) m = true) {k : Nat} (hk : k < m) : ai_hv en_t0 c (b + st * k) = some (.inl 0) := by
  have h1 := ha_all_ok h k hk
  unfold hg_z at h1
  split at h1
  · rename_i m9 e
    rw [e, Nat.eq_of_beq_eq_true h1]
  · cases h1
set_option maxRecDepth 1000000 in
theorem hg_E : ai_E en_t0 := by
  have z1 : ai_hv en_t0 323 5 = some (.inl 0) := hg_z_ok (c := 323) (b := 5) (st := 1) (m := 1) (by decide +kernel) (k := 0) (by decide)
  have z2 : ai_hv en_t0 329 5 = some (.inl 0) := hg_z_ok (c := 329) (b := 5) (st := 1) (m := 1) (by decide +kernel) (k := 0) (by decide)
  have z3 : ai_hv en_t0 389 3 = some (.inl 0) := hg_z_ok (c := 389) (b := 3) (st := 1) (m := 1) (by decide +kernel) (k := 0) (by decide)
  have z4 : ha_all (hg_z 396 1 4) 24 = true := by decide +kernel
  have z5 : ha_all (hg_z 396 2 4) 24 = true := by decide +kernel
  have z6 : ha_all (hg_z 399 7 45) 23 = true := by decide +kernel
  have z7 : ha_all (hg_z 399 8 45) 23 = true := by decide +kernel
  have z8 : ∀ l, l < 3 → ai_hv en_t0 389 (9 + l) = some (.inl 4294967295) := by
    have z9 : ha_all (fun k => match ai_hv en_t0 389 (9 + k) with | some (.inl m) => Nat.beq m 4294967295 | _ => false) 3 = true := by decide +kernel
    intro l hl
    have h1 := ha_all_ok z9 l hl
    split at h1
    · rename_i m9 e
      rw [e, Nat.eq_of_beq_eq_true h1]
    · cases h1
  refine ⟨⟨⟨0, z1, by omega, fun j hj => by omega⟩, ⟨0, z2, by omega, fun j hj => by omega⟩⟩, fun k hk => Or.inl ⟨0, z3, Nat.le_refl _, Nat.zero_le _⟩, fun k hk => Or.inl ⟨⟨0, hg_z_ok z4 hk, Nat.le_refl _, Nat.le_refl _⟩, ⟨0, hg_z_ok z5 hk, Nat.le_refl _, Nat.zero_le _⟩⟩, fun b hb => ⟨0, 0, ?_, ?_, by omega⟩, fun l hl => Or.inl (z8 l hl)⟩
  · rw [Nat.add_comm]; exact hg_z_ok z6 hb
  · rw [Nat.add_comm]; exact hg_z_ok z7 hb
noncomputable def hg_o (q : Nat × Nat × ai_h) : Bool := match ai_hv en_t0 q.1 q.2.1 with
  | some v => hg_v q.2.2 v
  | none => false
set_option maxRecDepth 1000000 in
theorem hg_O : ai_HO pi_s00 en_t0 := by
  have h : ai_all hg_o pi_s00 = true := by decide +kernel
  intro q hq
  have h1 := ai_all_ok h q hq
  unfold hg_o at h1
  split at h1
  · rename_i v e
    exact ⟨v, e, hg_v_ok h1⟩
  · cases h1
set_option maxRecDepth 1000000 in
theorem hg_w : ∀ w, w < 42 → ai_hv en_t0 388 w = some (.inr (.inl (wd_37 w))) := by
  have z9 : ha_all (fun k => match ai_hv en_t0 388 k with | some (.inr (.inl m)) => Nat.beq m (wd_37 k) | _ => false) 42 = true := by decide +kernel
  intro l hl
  have h1 := ha_all_ok z9 l hl
  split at h1
  · rename_i m9 e
    rw [e, Nat.eq_of_beq_eq_true h1]
  · cases h1
noncomputable def hg_n (c b k m : Nat) : Bool := ha_all (fun j => match ai_hv en_t0 c (b + j) with | some (.inl x) => Nat.beq x m | _ => false) k
theorem hg_n_ok {c b k m j : Nat} (h : hg_n c b k m = true) (hj : j < k) : ai_hv en_t0 c (b + j) = some (.inl m) := by
  have h1 := ha_all_ok h j hj
  split at h1
  · rename_i x e
    rw [e, Nat.eq_of_beq_eq_true h1]
  · cases h1
/-! what is told at first: grid 2 2, nothing else -/
noncomputable def hg_s0 : Nat → Nat → Nat := fun i _ => bif Nat.beq i 0 then 2 else bif Nat.beq i 1 then 2 else bif Nat.beq i 23 then 4 else 0
noncomputable def hg_t1 : en_H := en_set en_t0 389 (.inl (0, match en_get en_t0 389 with | some (.inl q) => q.2.take 160 ++ q.2.take 160 | _ => []))
noncomputable def hg_m (t : en_H) (c b k m : Nat) : Bool := ha_all (fun j => match ai_hv t c (b + j) with | some (.inl x) => Nat.beq x m | _ => false) k
theorem hg_m_ok {t : en_H} {c b k m j : Nat} (h : hg_m t c b k m = true) (hj : j < k) : ai_hv t c (b + j) = some (.inl m) := by
  have h1 := ha_all_ok h j hj
  split at h1
  · rename_i x e
    rw [e, Nat.eq_of_beq_eq_true h1]
  · cases h1
noncomputable def hg_q (k : Nat) : Bool := match ai_hv en_t0 389 k, ai_hv hg_t1 389 (160 + k) with
  | some (.inl a), some (.inl b) => Nat.beq a b
  | _, _ => false
set_option maxRecDepth 1000000 in
theorem hg_cp : ∀ i, i < 160 → ai_hv en_t0 389 i = ai_hv hg_t1 389 (160 + i) := by
  have h : ha_all hg_q 160 = true := by decide +kernel
  intro i hi
  have h1 := ha_all_ok h i hi
  unfold hg_q at h1
  split at h1
  · rename_i a b e1 e2
    rw [e1, e2, Nat.eq_of_beq_eq_true h1]
  · cases h1
theorem hg_WB : WB hg_s0 := ⟨⟨by decide, by decide, by decide, by decide, by decide, by decide, by decide, by decide, by decide, by decide, by decide, by decide⟩, fun i hi => absurd hi (Nat.not_lt_zero i)⟩
theorem hg_W3 : W3 (fun _ => 0) 0 0 hg_s0 := ⟨hg_WB, ⟨by decide, fun k hk => absurd hk (Nat.not_lt_zero k)⟩, ⟨⟨fun i hi => absurd hi (Nat.not_lt_zero i), fun i hi => absurd hi (Nat.not_lt_zero i), fun i hi => absurd hi (Nat.not_lt_zero i), fun i hi => absurd hi (Nat.not_lt_zero i)⟩, fun k hk => absurd hk (Nat.not_lt_zero k), fun k l hk => absurd hk (Nat.not_lt_zero k)⟩⟩
set_option maxRecDepth 1000000 in
theorem hg_RA : RA hg_t1 (fun _ => 0) 0 hg_s0 := by
  have a1 : hg_m hg_t1 389 160 2 2 = true := by decide +kernel
  have a2 : hg_m hg_t1 389 162 3 0 = true := by decide +kernel
  have a3 : hg_m hg_t1 389 166 3 0 = true := by decide +kernel
  have a4 : hg_m hg_t1 383 19 2 0 = true := by decide +kernel
  have a5 : hg_m hg_t1 389 169 3 4294967295 = true := by decide +kernel
  have a6 : hg_m hg_t1 389 165 1 2 = true := by decide +kernel
  have a7 : hg_m hg_t1 389 172 64 4 = true := by decide +kernel
  refine ⟨⟨hg_m_ok (j := 0) a1 (by decide), hg_m_ok (j := 1) a1 (by decide), hg_m_ok (j := 0) a2 (by decide), hg_m_ok (j := 1) a2 (by decide), hg_m_ok (j := 2) a2 (by decide), hg_m_ok (j := 0) a3 (by decide), hg_m_ok (j := 1) a3 (by decide), hg_m_ok (j := 2) a3 (by decide), hg_m_ok (j := 1) a4 (by decide), hg_m_ok (j := 0) a4 (by decide)⟩, fun k hk => Or.inl ⟨rfl, hg_m_ok a5 hk⟩, ?_⟩
  refine ⟨fun i hi => absurd hi (Nat.not_lt_zero i), fun i hi => absurd hi (Nat.not_lt_zero i), fun i hi => absurd hi (Nat.not_lt_zero i), fun i hi => absurd hi (Nat.not_lt_zero i), ?_⟩
  exact ⟨fun i hi => absurd hi (Nat.not_lt_zero i), fun i hi => absurd hi (Nat.not_lt_zero i), fun i hi => absurd hi (Nat.not_lt_zero i), fun i hi => absurd hi (Nat.not_lt_zero i), fun i hi => absurd hi (Nat.not_lt_zero i), fun i hi => absurd hi (Nat.not_lt_zero i), fun i hi => absurd hi (Nat.not_lt_zero i), fun i hi => absurd hi (Nat.not_lt_zero i), fun i hi => absurd hi (Nat.not_lt_zero i), fun i hi => absurd hi (Nat.not_lt_zero i), fun i hi => absurd hi (Nat.not_lt_zero i), fun i hi => absurd hi (Nat.not_lt_zero i), hg_m_ok (j := 0) a6 (by decide), fun j hj => by rw [Nat.one_mul]; exact hg_m_ok a7 hj⟩
set_option maxRecDepth 1000000 in
theorem hg_CA : CA en_t0 191 (fun _ => 0) 0 hg_s0 := by
  have a1 : hg_m en_t0 191 0 3 2 = true := by decide +kernel
  have a2 : hg_m en_t0 192 0 64 4 = true := by decide +kernel
  have a3 : hg_m en_t0 7 4 4 0 = true := by decide +kernel
  have b : ∀ c, c = 194 ∨ c = 200 ∨ c = 206 ∨ c = 212 ∨ c = 218 ∨ c = 224 → hg_m en_t0 c 5 1 0 = true := by
    intro c hc
    rcases hc with rfl | rfl | rfl | rfl | rfl | rfl <;> decide +kernel
  refine ⟨⟨hg_m_ok (j := 0) a1 (by decide), hg_m_ok (j := 1) a1 (by decide), hg_m_ok (j := 0) (b 194 (by first | decide | omega)) (by decide), hg_m_ok (j := 0) (b 200 (by first | decide | omega)) (by decide), hg_m_ok (j := 0) (b 206 (by first | decide | omega)) (by decide), hg_m_ok (j := 0) (b 212 (by first | decide | omega)) (by decide), hg_m_ok (j := 0) (b 218 (by first | decide | omega)) (by decide), hg_m_ok (j := 0) (b 224 (by first | decide | omega)) (by decide), hg_m_ok (j := 0) a3 (by decide), hg_m_ok (j := 1) a3 (by decide), hg_m_ok (j := 2) a3 (by decide), hg_m_ok (j := 3) a3 (by decide)⟩, fun i hi => absurd hi (Nat.not_lt_zero i), fun i hi => absurd hi (Nat.not_lt_zero i), fun i hi => absurd hi (Nat.not_lt_zero i), fun i hi => absurd hi (Nat.not_lt_zero i), fun i hi => absurd hi (Nat.not_lt_zero i), fun i hi => absurd hi (Nat.not_lt_zero i), ?_⟩
  exact ⟨fun i hi => absurd hi (Nat.not_lt_zero i), fun i hi => absurd hi (Nat.not_lt_zero i), fun i hi => absurd hi (Nat.not_lt_zero i), fun i hi => absurd hi (Nat.not_lt_zero i), fun i hi => absurd hi (Nat.not_lt_zero i), fun i hi => absurd hi (Nat.not_lt_zero i), fun i hi => absurd hi (Nat.not_lt_zero i), fun i hi => absurd hi (Nat.not_lt_zero i), fun i hi => absurd hi (Nat.not_lt_zero i), fun i hi => absurd hi (Nat.not_lt_zero i), fun i hi => absurd hi (Nat.not_lt_zero i), fun i hi => absurd hi (Nat.not_lt_zero i), hg_m_ok (j := 2) a1 (by decide), fun j hj => by have h9 := hg_m_ok a2 hj; rw [Nat.zero_add] at h9; exact h9⟩
noncomputable def hg_cr (k : Nat) : Bool := match ai_hv en_t0 147 k with
  | some (.inr (.inr (.inl (some c)))) => Nat.beq c (148 + k)
  | _ => false
set_option maxRecDepth 1000000 in
theorem hg_CR : CR en_t0 := by
  have h : ha_all hg_cr 31 = true := by decide +kernel
  intro i hi
  have h1 := ha_all_ok h i hi
  unfold hg_cr at h1
  split at h1
  · rename_i c e
    rw [e, Nat.eq_of_beq_eq_true h1]
  · cases h1
noncomputable def hg_lr (k : Nat) : Bool := match ai_hv en_t0 180 k with
  | some (.inr (.inr (.inl (some c)))) => Nat.beq c (181 + k)
  | _ => false
set_option maxRecDepth 1000000 in
theorem hg_LR : LR en_t0 := by
  have h : ha_all hg_lr 7 = true := by decide +kernel
  intro i hi
  have h1 := ha_all_ok h i hi
  unfold hg_lr at h1
  split at h1
  · rename_i c e
    rw [e, Nat.eq_of_beq_eq_true h1]
  · cases h1
set_option maxRecDepth 1000000 in
theorem hg_PW : PW en_t0 191 := ⟨fun k hk => by
  have a5 : hg_m en_t0 389 9 3 4294967295 = true := by decide +kernel
  have b0 : hg_m en_t0 230 2 1 1 = true := by decide +kernel
  have c0 : hg_m en_t0 232 0 1 4294967287 = true := by decide +kernel
  have b1 : hg_m en_t0 233 2 1 1 = true := by decide +kernel
  have c1 : hg_m en_t0 235 0 1 1 = true := by decide +kernel
  have b2 : hg_m en_t0 236 2 1 1 = true := by decide +kernel
  have c2 : hg_m en_t0 238 0 1 1 = true := by decide +kernel
  refine ⟨[cdf k], Or.inl ⟨hg_m_ok a5 hk, rfl⟩, ?_, cdf_ok hk⟩
  rcases (show k = 0 ∨ k = 1 ∨ k = 2 by omega) with rfl | rfl | rfl
  · exact ⟨hg_m_ok (j := 0) b0 (by decide), fun j hj => by
      have hj : j < 1 := hj
      have e : j = 0 := by omega
      subst e
      exact hg_m_ok (j := 0) c0 (by decide)⟩
  · exact ⟨hg_m_ok (j := 0) b1 (by decide), fun j hj => by
      have hj : j < 1 := hj
      have e : j = 0 := by omega
      subst e
      exact hg_m_ok (j := 0) c1 (by decide)⟩
  · exact ⟨hg_m_ok (j := 0) b2 (by decide), fun j hj => by
      have hj : j < 1 := hj
      have e : j = 0 := by omega
      subst e
      exact hg_m_ok (j := 0) c2 (by decide)⟩, hg_CR, hg_LR⟩
set_option maxRecDepth 1000000 in
theorem hg_U : pi_U en_t0 := by
  obtain ⟨v, h1, h2⟩ := hg_O _ List.mem_cons_self
  rw [rh_one (c := 191) h2] at h1
  have z1 : hg_m en_t0 383 18 1 0 = true := by decide +kernel
  exact ⟨191, (fun _ => 0), 0, 0, hg_s0, Or.inl rfl, h1, ⟨hg_W3, fun j hj => absurd hj (Nat.not_lt_zero j), (fun i j hi => absurd hi (Nat.not_lt_zero i)), fun i hi => absurd hi (Nat.not_lt_zero i)⟩, ⟨fun j hj => Nat.le_refl 4, hg_PW⟩, ⟨⟨hg_t1, hg_RA, hg_cp⟩, hg_m_ok (j := 0) z1 (by decide), fun k hk => absurd hk (Nat.not_lt_zero k)⟩, CU_of hg_CA⟩
set_option maxRecDepth 1000000 in
noncomputable def hg_jr (p k : Nat) : Bool := match ai_hv en_t0 (p + 49) k with
  | some (.inr (.inr (.inl (some c)))) => Nat.beq c (p + 50 + k)
  | _ => false
theorem hg_jr_ok {p : Nat} (h : ha_all (hg_jr p) 16 = true) : JRw en_t0 p := by
  intro i hi
  have h1 := ha_all_ok h i hi
  unfold hg_jr at h1
  split at h1
  · rename_i c e
    rw [e, Nat.eq_of_beq_eq_true h1]
  · cases h1
theorem jmp_st {O D k j : Nat} : jmp O D (fun _ => 4) k j = j := by
  induction k with
  | zero => rfl
  | succ k ih =>
    show nb O D (jmp O D (fun _ => 4) k j) 4 = j
    rw [nb_4]
    exact ih
noncomputable def hg_id (c k : Nat) : Bool := match ai_hv en_t0 c k with
  | some (.inl m) => Nat.beq m k
  | _ => false
theorem hg_id_ok {c m : Nat} (h : ha_all (hg_id c) m = true) {k : Nat} (hk : k < m) : ai_hv en_t0 c k = some (.inl k) := by
  have h1 := ha_all_ok h k hk
  unfold hg_id at h1
  split at h1
  · rename_i m9 e
    rw [e, Nat.eq_of_beq_eq_true h1]
  · cases h1
noncomputable def hg_l (c k x : Nat) : Bool := match ai_hv en_t0 c k with
  | some (.inr (.inl m)) => Nat.beq m x
  | _ => false
theorem hg_l_ok {c k x : Nat} (h : hg_l c k x = true) : ai_hv en_t0 c k = some (.inr (.inl x)) := by
  unfold hg_l at h
  split at h
  · rename_i m9 e
    rw [e, Nat.eq_of_beq_eq_true h]
  · cases h
noncomputable def hg_jj (i : Nat) : Bool := ha_all (hg_id (241 + i)) 64
theorem hg_bt {x : Nat} {P : Nat → Bool} (h1 : x < 18446744073709551616) (h : ha_all (fun j => x.testBit j == P j) 64 = true) : bts x P := ⟨h1, fun j hj => by
  have h2 := ha_all_ok h j hj
  exact eq_of_beq h2⟩
set_option maxRecDepth 1000000 in
theorem hg_X : pi_X en_t0 := by
  obtain ⟨v, h1, h2⟩ := hg_O _ List.mem_cons_self
  rw [rh_one (c := 191) h2] at h1
  have a1 : hg_m en_t0 191 0 2 2 = true := by decide +kernel
  have a2 : hg_m en_t0 192 0 64 4 = true := by decide +kernel
  have a3 : ha_all (hg_id 193) 64 = true := by decide +kernel
  have a4 : ha_all hg_jj 16 = true := by decide +kernel
  have a5 : hg_l 191 16 771 = true := by decide +kernel
  have a6 : ha_all (fun s => hg_l 239 s (if s = 4 then 771 else 0)) 5 = true := by decide +kernel
  have j1 : JRw en_t0 191 := hg_jr_ok (by decide +kernel)
  refine ⟨j1, hg_jr_ok (by decide +kernel), 191, Or.inl rfl, h1, 2, 2, (fun _ => 4), 771, (fun s => if s = 4 then 771 else 0), by decide, by decide, hg_m_ok (j := 0) a1 (by decide), hg_m_ok (j := 1) a1 (by decide), fun j hj => ⟨?_, Nat.le_refl 4⟩, fun j hj => ?_, ⟨hg_l_ok a5, hg_bt (by decide) (by decide +kernel)⟩, fun s hs => ⟨hg_l_ok (ha_all_ok a6 s hs), ?_⟩, j1, fun i hi j hj => ?_⟩
  · have h9 := hg_m_ok a2 hj
    rw [Nat.zero_add] at h9
    exact h9
  · rw [nb_4]
    exact hg_id_ok a3 hj
  · rcases (show s = 0 ∨ s = 1 ∨ s = 2 ∨ s = 3 ∨ s = 4 by omega) with rfl | rfl | rfl | rfl | rfl <;> exact hg_bt (by decide) (by decide +kernel)
  · rw [jmp_st]
    exact hg_id_ok (ha_all_ok a4 i hi) hj
set_option maxRecDepth 1000000 in
theorem hg_M : pi_M (5 * 0) en_t0 := by
  have z1 : hg_m en_t0 138 0 4 0 = true := by decide +kernel
  have z2 : hg_m en_t0 400 0 4 0 = true := by decide +kernel
  have z3 : hg_m en_t0 389 2 3 0 = true := by decide +kernel
  have z4 : hg_m en_t0 399 0 18 0 = true := by decide +kernel
  have z5 : hg_m en_t0 383 26 1 0 = true := by decide +kernel
  have z6 : hg_m en_t0 8 0 1 0 = true := by decide +kernel
  have z7 : hg_m en_t0 139 0 1 0 = true := by decide +kernel
  have z8 : hg_m en_t0 22 1 2 0 = true := by decide +kernel
  have z9 : hg_m en_t0 389 0 2 2 = true := by decide +kernel
  refine ⟨hg_X, 0, 0, (fun _ => 0), 0, (fun _ _ => 0), (fun _ => 0), (fun _ _ => 0), 0, (fun _ => 0), ⟨hg_m_ok (j := 0) z3 (by decide), hg_m_ok (j := 2) z3 (by decide)⟩, ⟨fun j hj => ?_, hg_m_ok (j := 17) z4 (by decide), ⟨hg_m_ok (j := 0) z5 (by decide), fun k hk => absurd hk (Nat.not_lt_zero k)⟩, fun m hm => ⟨?_, fun z => absurd (show (0 : Nat) = 1 from z) (by decide)⟩⟩, ⟨⟨hg_m_ok (j := 0) z6 (by decide), fun i hi => absurd hi (Nat.not_lt_zero i), fun i hi => absurd hi (Nat.not_lt_zero i)⟩, hg_m_ok (j := 0) z7 (by decide), ⟨0, by decide, hg_m_ok (j := 0) z8 (by decide), hg_m_ok (j := 1) z8 (by decide), fun k hk => absurd hk (Nat.not_lt_zero k)⟩, fun m hm => ⟨?_, fun z => absurd (show (0 : Nat) = 1 from z) (by decide)⟩⟩, ⟨Nat.zero_le _, Nat.le_refl _, fun k hk => absurd hk (Nat.not_lt_zero k), fun m hm z => absurd (show (0 : Nat) = 1 from z) (by decide)⟩, fun _ _ => Nat.zero_le _, Nat.zero_le _, (fun _ _ _ => Nat.zero_le _), 2, 2, ⟨hg_m_ok (j := 0) z9 (by decide), hg_m_ok (j := 1) z9 (by decide)⟩, (fun i hi => absurd hi (Nat.not_lt_zero i)), (fun k hk => absurd hk (Nat.not_lt_zero k)), fun m hm z => absurd (show (0 : Nat) = 1 from z) (by decide)⟩
  · exact hg_m_ok (j := j) z4 (by first | decide | omega)
  · have h9 := hg_m_ok z2 hm
    rw [Nat.zero_add] at h9
    exact h9
  · have h9 := hg_m_ok z1 hm
    rw [Nat.zero_add] at h9
    exact h9
set_option maxRecDepth 1000000 in
theorem hg_LN : LN en_t0 := by
  obtain ⟨v, h1, h2⟩ := hg_O _ (List.mem_cons_of_mem _ (List.mem_cons_of_mem _ List.mem_cons_self))
  rw [rh_one (c := 323) h2] at h1
  have a1 : hg_m en_t0 389 0 2 2 = true := by decide +kernel
  have a2 : hg_m en_t0 389 4 1 0 = true := by decide +kernel
  have a3 : hg_m en_t0 323 5 1 0 = true := by decide +kernel
  have a4 : hg_m en_t0 396 0 1 0 = true := by decide +kernel
  exact ⟨323, 0, 2, 2, 0, Or.inl rfl, h1, ⟨hg_m_ok (j := 0) a1 (by decide), hg_m_ok (j := 1) a1 (by decide), hg_m_ok (j := 0) a2 (by decide)⟩, by decide, hg_m_ok (j := 0) a3 (by decide), hg_m_ok (j := 0) a4 (by decide), fun k hk => absurd hk (Nat.not_lt_zero k)⟩
set_option maxRecDepth 1000000 in
theorem hg_I : pi_I 0 en_t0 := ⟨hg_t0, hg_E, ⟨_, Or.inl rfl, hg_O⟩, ⟨0, (fun _ => 0), by omega, hg_z_ok (c := 1) (b := 0) (st := 1) (m := 1) (by decide +kernel) (k := 0) (by decide), hg_z_ok (c := 383) (b := 2) (st := 1) (m := 1) (by decide +kernel) (k := 0) (by decide), (fun i hi => absurd hi (Nat.not_lt_zero i)), (fun i hi => absurd hi (Nat.not_lt_zero i)), hg_w, hg_LN⟩, hg_U, hg_M⟩
theorem en_h0_ph : ∀ (k : Nat) (cl : en_C), en_get en_h0 k = some cl → cl = en_ph := by
  intro k cl h
  unfold en_get en_h0 at h
  rw [en_nth_eq, en_rep_eq, List.getElem?_replicate] at h
  split at h
  · cases h
  · rename_i r hr
    split at hr
    · cases hr
      rw [en_nth_eq, en_rep_eq, List.getElem?_replicate] at h
      split at h
      · cases h
        rfl
      · cases h
    · cases hr
/-- from the entry, for every script of at most 3584 ints, the law comes to its end with true -/
theorem whole_start {p : Program} {e : Env} {s : State} {m : MethodId} {below : List Frame} {meth : Method} {c : Code} (l : Launch) (hlt : l.stackTraces = false) {b L : Nat} {xs : Nat → Int32} (hL : L ≤ 3584) (C0 : lw_At p s m meth c b L xs) : W p l e room_1 s m #[Value.ref b] below meth c s.heap [] 0 0 (lw_Z below #[Value.ref b] s) (entryFrame m ([Value.ref b] : List Value).toArray 7) := by
  obtain ⟨hx, hb, hr, hml, hown, hts, hX, hbl, hlk, hnar, hname⟩ := C0
  obtain ⟨ex, cA, D, hex, hKw⟩ := en_world hts hnar
  have C1 : en_LC 62 p s m meth c b ex cA D L xs := ⟨⟨hx, hb, hml, rfl, hown, fun w hw => hts w (en_gt_lw hw), hKw, hlk, hr, hname, by decide, by decide, by decide, by decide⟩, hex, hX, hbl⟩
  have C2 := lw_at C1 (d' := 20) (by decide)
  rw [lg_entry_eq]
  have hl := lv_entry [Value.ref b] (n := 7) (Nat.le_of_ble_eq_true rfl)
  have T8 : en_LT p l e s m below meth c b ex cA D (8, [(1, .inr (.inr (.inl (some 0)))), (0, .inr (.inr (.inr (.inl 2))))], [], en_tD, 383, 17141) := en_sound C2.1 (oc := none) (fun L' hL' => by cases hL') (en_call_sound en_ml_ok en_code_ok l _ ex cA D 20) en_lawc_ok 100 8 _ _ _ _ _ _ (Nat.zero_le _) (en_isS_ok en_start) (fun r hr => by cases hr) (fun S' hS => by cases hS; exact lt_loop C1 hlt (tx_start hts hnar) hL L 0 413 31071 en_ls0 en_t0 (by first | decide | omega) (by first | decide | omega) (fun _ => rfl) (by first | decide | omega) (by first | decide | omega) hg_I ⟨rfl, rfl, rfl, rfl, rfl⟩)
  have T0 : en_LT p l e s m below meth c b ex cA D (0, [(0, .inr (.inr (.inr (.inl 2))))], [], en_h0, 0, 0) := by
    obtain ⟨fuel, o, h1, rfl⟩ := en_to8
    exact en_sound C2.1 (oc := none) (fun L' hL' => by cases hL') (en_fn_hf l _ ex cA D) en_lawc_ok fuel 0 _ _ _ _ _ _ (Nat.zero_le _) h1 (fun r hr => by cases hr) (fun S' hS => by cases hS; exact T8)
  exact T0.2.2 s.heap [] _ [] ⟨_, hl, ⟨rfl, by show Value.ref b = Value.ref (ex 1); rw [hex]⟩, trivial⟩ trivial ⟨rfl, fun k cl h => Or.inl (en_h0_ph k cl h)⟩ va_S.rf
end PKK
