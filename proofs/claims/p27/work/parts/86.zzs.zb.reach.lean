section SSY
/-! where the flows carry a set of places -/
noncomputable def dfn (w : Nat → Nat → Nat) (H : Nat → Bool) (q : Nat) : Nat → Bool
  | 0 => false
  | k + 1 => dfn w H q k || (H k && decide (fto w k = q))
noncomputable def dft (w : Nat → Nat → Nat) (H : Nat → Bool) (q : Nat) : Bool := dfn w H q 64
theorem dfn_iff {w : Nat → Nat → Nat} {H : Nat → Bool} {q : Nat} : ∀ {m : Nat}, dfn w H q m = true ↔ ∃ k, k < m ∧ H k = true ∧ fto w k = q
  | 0 => ⟨fun h => absurd (show false = true from h) (by decide), fun ⟨k, h, _⟩ => absurd h (Nat.not_lt_zero k)⟩
  | m + 1 => by
    show (dfn w H q m || (H m && decide (fto w m = q))) = true ↔ _
    rw [Bool.or_eq_true, Bool.and_eq_true, decide_eq_true_eq, dfn_iff (m := m)]
    constructor
    · rintro (⟨k, h1, h2⟩ | ⟨h1, h2⟩)
      · exact ⟨k, by omega, h2⟩
      · exact ⟨m, by omega, h1, h2⟩
    · rintro ⟨k, h1, h2, h3⟩
      by_cases c : k = m
      · subst c; exact Or.inr ⟨h2, h3⟩
      · exact Or.inl ⟨k, by omega, h2, h3⟩
noncomputable def gin (O D : Nat) (H : Nat → Bool) : Prop := ∀ j, j < 64 → H j = true → inG O D j = true
noncomputable def drA (w : Nat → Nat → Nat) (H : Nat → Bool) (s j : Nat) : Bool := H j && (inG (w 0 0) (w 0 1) j && decide (fdir (w 0 0) (w 0 1) (w 1) j = s))
noncomputable def drb (w : Nat → Nat → Nat) (H : Nat → Bool) (q : Nat) : Bool := ((((decide (q + 8 < 64) && drA w H 0 (q + 8)) || (decide (1 ≤ q) && drA w H 1 (q - 1))) || (decide (8 ≤ q) && drA w H 2 (q - 8))) || (decide (q + 1 < 64) && drA w H 3 (q + 1))) || drA w H 4 q
theorem drA_iff {w : Nat → Nat → Nat} {H : Nat → Bool} {s j : Nat} : drA w H s j = true ↔ H j = true ∧ inG (w 0 0) (w 0 1) j = true ∧ fdir (w 0 0) (w 0 1) (w 1) j = s := by
  unfold drA
  rw [Bool.and_eq_true, Bool.and_eq_true, decide_eq_true_eq]
theorem drb_iff {w : Nat → Nat → Nat} {H : Nat → Bool} {q : Nat} : drb w H q = true ↔ (q + 8 < 64 ∧ drA w H 0 (q + 8) = true) ∨ (1 ≤ q ∧ drA w H 1 (q - 1) = true) ∨ (8 ≤ q ∧ drA w H 2 (q - 8) = true) ∨ (q + 1 < 64 ∧ drA w H 3 (q + 1) = true) ∨ drA w H 4 q = true := by
  unfold drb
  simp only [Bool.or_eq_true, Bool.and_eq_true, decide_eq_true_eq, or_assoc]
theorem dft_drb {w : Nat → Nat → Nat} {H : Nat → Bool} {q : Nat} (hF : ∀ p, p < 64 → w 1 p ≤ 4) (hH : gin (w 0 0) (w 0 1) H) (hq : q < 64) : dft w H q = drb w H q := by
  apply Bool.eq_iff_iff.mpr
  unfold dft
  rw [dfn_iff, drb_iff]
  constructor
  · rintro ⟨k, hk, h1, h2⟩
    have g := hH k hk h1
    by_cases c : nb (w 0 0) (w 0 1) k (w 1 k) = k
    · have e : k = q := c.symm.trans h2
      subst e
      exact Or.inr (Or.inr (Or.inr (Or.inr (drA_iff.mpr ⟨h1, g, if_pos c⟩))))
    · have hd : fdir (w 0 0) (w 0 1) (w 1) k = w 1 k := if_neg c
      have h2 : nb (w 0 0) (w 0 1) k (w 1 k) = q := h2
      have hs := hF k hk
      rcases (show w 1 k = 0 ∨ w 1 k = 1 ∨ w 1 k = 2 ∨ w 1 k = 3 ∨ w 1 k = 4 by omega) with e | e | e | e | e <;> rw [e] at h2 c hd
      · rw [nb_0] at h2 c
        by_cases z : 8 ≤ k ∧ k % 8 < w 0 0 ∧ k / 8 - 1 < w 0 1
        · rw [if_pos z] at h2
          have e9 : k = q + 8 := by omega
          rw [e9] at h1 g hd hk
          exact Or.inl ⟨hk, drA_iff.mpr ⟨h1, g, hd⟩⟩
        · rw [if_neg z] at c; exact absurd rfl c
      · rw [nb_1] at h2 c
        by_cases z : k % 8 + 1 < w 0 0 ∧ k / 8 < w 0 1
        · rw [if_pos z] at h2
          have e9 : k = q - 1 := by omega
          rw [e9] at h1 g hd
          exact Or.inr (Or.inl ⟨by omega, drA_iff.mpr ⟨h1, g, hd⟩⟩)
        · rw [if_neg z] at c; exact absurd rfl c
      · rw [nb_2] at h2 c
        by_cases z : k % 8 < w 0 0 ∧ k / 8 + 1 < w 0 1
        · rw [if_pos z] at h2
          have e9 : k = q - 8 := by omega
          rw [e9] at h1 g hd
          exact Or.inr (Or.inr (Or.inl ⟨by omega, drA_iff.mpr ⟨h1, g, hd⟩⟩))
        · rw [if_neg z] at c; exact absurd rfl c
      · rw [nb_3] at h2 c
        by_cases z : 1 ≤ k % 8 ∧ k % 8 - 1 < w 0 0 ∧ k / 8 < w 0 1
        · rw [if_pos z] at h2
          have e9 : k = q + 1 := by omega
          rw [e9] at h1 g hd hk
          exact Or.inr (Or.inr (Or.inr (Or.inl ⟨hk, drA_iff.mpr ⟨h1, g, hd⟩⟩)))
        · rw [if_neg z] at c; exact absurd rfl c
      · rw [nb_4] at c; exact absurd rfl c
  · have mv : ∀ {j s : Nat}, s < 4 → drA w H s j = true → H j = true ∧ w 1 j = s ∧ ¬ nb (w 0 0) (w 0 1) j s = j := by
      intro j s hs h
      obtain ⟨h1, -, h3⟩ := drA_iff.mp h
      unfold fdir at h3
      by_cases c : nb (w 0 0) (w 0 1) j (w 1 j) = j
      · rw [if_pos c] at h3; omega
      · rw [if_neg c] at h3
        rw [h3] at c
        exact ⟨h1, h3, c⟩
    rintro (⟨h1, h2⟩ | ⟨h1, h2⟩ | ⟨h1, h2⟩ | ⟨h1, h2⟩ | h2)
    · obtain ⟨a1, a2, a3⟩ := mv (by decide) h2
      refine ⟨q + 8, h1, a1, ?_⟩
      show nb (w 0 0) (w 0 1) (q + 8) (w 1 (q + 8)) = q
      rw [a2, nb_0]
      rw [nb_0] at a3
      by_cases z : 8 ≤ q + 8 ∧ (q + 8) % 8 < w 0 0 ∧ (q + 8) / 8 - 1 < w 0 1
      · rw [if_pos z]; omega
      · rw [if_neg z] at a3; exact absurd rfl a3
    · obtain ⟨a1, a2, a3⟩ := mv (by decide) h2
      refine ⟨q - 1, by omega, a1, ?_⟩
      show nb (w 0 0) (w 0 1) (q - 1) (w 1 (q - 1)) = q
      rw [a2, nb_1]
      rw [nb_1] at a3
      by_cases z : (q - 1) % 8 + 1 < w 0 0 ∧ (q - 1) / 8 < w 0 1
      · rw [if_pos z]; omega
      · rw [if_neg z] at a3; exact absurd rfl a3
    · obtain ⟨a1, a2, a3⟩ := mv (by decide) h2
      refine ⟨q - 8, by omega, a1, ?_⟩
      show nb (w 0 0) (w 0 1) (q - 8) (w 1 (q - 8)) = q
      rw [a2, nb_2]
      rw [nb_2] at a3
      by_cases z : (q - 8) % 8 < w 0 0 ∧ (q - 8) / 8 + 1 < w 0 1
      · rw [if_pos z]; omega
      · rw [if_neg z] at a3; exact absurd rfl a3
    · obtain ⟨a1, a2, a3⟩ := mv (by decide) h2
      refine ⟨q + 1, h1, a1, ?_⟩
      show nb (w 0 0) (w 0 1) (q + 1) (w 1 (q + 1)) = q
      rw [a2, nb_3]
      rw [nb_3] at a3
      by_cases z : 1 ≤ (q + 1) % 8 ∧ (q + 1) % 8 - 1 < w 0 0 ∧ (q + 1) / 8 < w 0 1
      · rw [if_pos z]; omega
      · rw [if_neg z] at a3; exact absurd rfl a3
    · obtain ⟨a1, -, a3⟩ := drA_iff.mp h2
      refine ⟨q, hq, a1, ?_⟩
      unfold fdir at a3
      by_cases c : nb (w 0 0) (w 0 1) q (w 1 q) = q
      · exact c
      · rw [if_neg c] at a3
        show nb (w 0 0) (w 0 1) q (w 1 q) = q
        rw [a3, nb_4]
theorem bts_drift {w : Nat → Nat → Nat} {x : Nat} {H : Nat → Bool} {fl : Nat → Nat} (h : bts x H) (hf : ∀ s, s < 5 → bts (fl s) (fun j => inG (w 0 0) (w 0 1) j && decide (fdir (w 0 0) (w 0 1) (w 1) j = s))) : bts (((((en_lushr (x &&& fl 0) 8) ||| (en_lshl (x &&& fl 1) 1)) ||| (en_lshl (x &&& fl 2) 8)) ||| (en_lushr (x &&& fl 3) 1)) ||| (x &&& fl 4)) (drb w H) := by
  have a : ∀ s, s < 5 → bts (x &&& fl s) (drA w H s) := fun s hs => bts_and2 h (hf s hs) (fun j hj => rfl)
  have a0 := a 0 (by decide)
  have a1 := a 1 (by decide)
  have a2 := a 2 (by decide)
  have a3 := a 3 (by decide)
  have a4 := a 4 (by decide)
  refine ⟨sz_or_lt (sz_or_lt (sz_or_lt (sz_or_lt sz_shr_lt sz_shl_lt) sz_shl_lt) sz_shr_lt) a4.1, fun j hj => ?_⟩
  rw [Nat.testBit_or, Nat.testBit_or, Nat.testBit_or, Nat.testBit_or, sz_shr (Or.inr rfl) a0.1, sz_shl (Or.inl rfl) hj a1.1, sz_shl (Or.inr rfl) hj a2.1, sz_shr (Or.inl rfl) a3.1, a4.2 j hj]
  unfold drb
  congr 1
  congr 1
  · congr 1
    · congr 1
      · by_cases c : j + 8 < 64
        · rw [decide_eq_true c, Bool.true_and, Nat.add_comm 8 j, a0.2 _ c]
        · rw [decide_eq_false c, Bool.false_and, sz_hi a0.1 (by first | decide | omega)]
      · by_cases c : 1 ≤ j
        · rw [decide_eq_true c, Bool.true_and, Bool.true_and, a1.2 _ (by first | decide | omega)]
        · rw [decide_eq_false c, Bool.false_and, Bool.false_and]
    · by_cases c : 8 ≤ j
      · rw [decide_eq_true c, Bool.true_and, Bool.true_and, a2.2 _ (by first | decide | omega)]
      · rw [decide_eq_false c, Bool.false_and, Bool.false_and]
  · by_cases c : j + 1 < 64
    · rw [decide_eq_true c, Bool.true_and, Nat.add_comm 1 j, a3.2 _ c]
    · rw [decide_eq_false c, Bool.false_and, sz_hi a3.1 (by first | decide | omega)]
theorem sz_dri {x a b c d e : Nat} (hx : x < 18446744073709551616) (ha : a < 18446744073709551616) (hb : b < 18446744073709551616) (hc : c < 18446744073709551616) (hd : d < 18446744073709551616) (he : e < 18446744073709551616) : en_lor (en_lor (en_lor (en_lor (en_lushr (en_land x a) 8) (en_lshl (en_land x b) 1)) (en_lshl (en_land x c) 8)) (en_lushr (en_land x d) 1)) (en_land x e) = (((((en_lushr (x &&& a) 8) ||| (en_lshl (x &&& b) 1)) ||| (en_lshl (x &&& c) 8)) ||| (en_lushr (x &&& d) 1)) ||| (x &&& e)) := by
  rw [sz_land hx ha, sz_land hx hb, sz_land hx hc, sz_land hx hd, sz_land hx he, sz_lor sz_shr_lt sz_shl_lt, sz_lor (sz_or_lt sz_shr_lt sz_shl_lt) sz_shl_lt, sz_lor (sz_or_lt (sz_or_lt sz_shr_lt sz_shl_lt) sz_shl_lt) sz_shr_lt, sz_lor (sz_or_lt (sz_or_lt (sz_or_lt sz_shr_lt sz_shl_lt) sz_shl_lt) sz_shr_lt) (sz_and_lt hx)]
theorem hit_up {w : Nat → Nat → Nat} {s q : Nat} {H : Nat → Bool} (h : H q = true) : ∀ n, hit w s n H q = true
  | 0 => h
  | n + 1 => by
    show (hit w s n H q || _) = true
    rw [hit_up h n, Bool.true_or]
theorem hit_gin {w : Nat → Nat → Nat} {s : Nat} {H : Nat → Bool} (hO : w 0 0 ≤ 8) (h : gin (w 0 0) (w 0 1) H) : ∀ n, gin (w 0 0) (w 0 1) (hit w s n H)
  | 0 => h
  | n + 1 => fun j hj hh => by
    have hh : hst w s (hit w s n H) j = true := hh
    rw [hst_bits hO hj, Bool.or_eq_true, Bool.and_eq_true, Bool.and_eq_true] at hh
    rcases hh with hh | ⟨-, hh, -⟩
    · exact hit_gin hO h n j hj hh
    · exact hh
theorem dft_gin {w : Nat → Nat → Nat} {H : Nat → Bool} (hO : w 0 0 ≤ 8) (h : gin (w 0 0) (w 0 1) H) : gin (w 0 0) (w 0 1) (dft w H) := fun j hj hh => by
  obtain ⟨k, k1, k2, k3⟩ := dfn_iff.mp hh
  rw [← k3]
  exact inG_nb hO (h k k1 k2)
theorem jmp_in {O D p : Nat} {F : Nat → Nat} (hO : O ≤ 8) (h : inG O D p = true) : ∀ k, inG O D (jmp O D F k p) = true
  | 0 => h
  | k + 1 => inG_nb hO (jmp_in hO h k)
/-- the soonest step at which the goal can be hauled to -/
noncomputable def snw (w : Nat → Nat → Nat) (s0 : Nat) : Nat → Nat → (Nat → Bool) → Nat → Nat
  | 0, _, _, _ => 4294967295
  | f + 1, k, H, g => if hit w (s0 + k) (w 0 5) H g = true then k else snw w s0 f (k + 1) (dft w (hit w (s0 + k) (w 0 5) H)) (fto w g)
theorem snw_t {w : Nat → Nat → Nat} {s0 f k g : Nat} {H : Nat → Bool} (h : hit w (s0 + k) (w 0 5) H g = true) : snw w s0 (f + 1) k H g = k := if_pos h
theorem snw_f {w : Nat → Nat → Nat} {s0 f k g : Nat} {H : Nat → Bool} (h : hit w (s0 + k) (w 0 5) H g = false) : snw w s0 (f + 1) k H g = snw w s0 f (k + 1) (dft w (hit w (s0 + k) (w 0 5) H)) (fto w g) := if_neg (by rw [h]; decide)
theorem snw_lt {w : Nat → Nat → Nat} {s0 : Nat} : ∀ f k H g, snw w s0 f k H g = 4294967295 ∨ (k ≤ snw w s0 f k H g ∧ snw w s0 f k H g < k + f)
  | 0, _, _, _ => Or.inl rfl
  | f + 1, k, H, g => by
    cases h : hit w (s0 + k) (w 0 5) H g with
    | true => rw [snw_t h]; omega
    | false =>
      rw [snw_f h]
      rcases snw_lt f (k + 1) (dft w (hit w (s0 + k) (w 0 5) H)) (fto w g) with e | e
      · exact Or.inl e
      · omega
theorem snw_more {w : Nat → Nat → Nat} {s0 : Nat} : ∀ f f' k H g, f ≤ f' → snw w s0 f k H g ≠ 4294967295 → snw w s0 f' k H g = snw w s0 f k H g
  | 0, _, _, _, _, _, h => absurd rfl h
  | f + 1, 0, _, _, _, h, _ => absurd h (by first | decide | omega)
  | f + 1, f' + 1, k, H, g, hf, h => by
    cases c : hit w (s0 + k) (w 0 5) H g with
    | true => rw [snw_t c, snw_t c]
    | false =>
      rw [snw_f c] at h ⊢
      rw [snw_f c]
      exact snw_more f f' (k + 1) _ _ (by first | decide | omega) h
theorem snw_less {w : Nat → Nat → Nat} {s0 : Nat} : ∀ f f' k H g, f ≤ f' → snw w s0 f' k H g < k + f → snw w s0 f k H g = snw w s0 f' k H g
  | 0, f', k, H, g, _, h => by
    rcases snw_lt (w := w) (s0 := s0) f' k H g with e | e
    · exact e.symm
    · omega
  | f + 1, 0, _, _, _, h, _ => absurd h (by first | decide | omega)
  | f + 1, f' + 1, k, H, g, hf, h => by
    cases c : hit w (s0 + k) (w 0 5) H g with
    | true => rw [snw_t c, snw_t c]
    | false =>
      rw [snw_f c] at h ⊢
      rw [snw_f c]
      exact snw_less f f' (k + 1) _ _ (by first | decide | omega) (by first | decide | omega)
/-- from a thing to a thing, setting out at the step k -/
noncomputable def snR (w : Nat → Nat → Nat) (σ : Nat → Nat) (a b f k : Nat) : Nat := snw w (σ 0) f k (fun q => decide (q = jmp (w 0 0) (w 0 1) (w 1) k (σ (1 + a)))) (jmp (w 0 0) (w 0 1) (w 1) k (σ (1 + b)))
/-- the last step to set out at and come no later than first -/
noncomputable def bst (R : Nat → Nat) (first : Nat) : Nat → Nat
  | 0 => 4294967295
  | k + 1 => if R k ≤ first then k else bst R first k
theorem bst_y {R : Nat → Nat} {first k : Nat} (h : R k ≤ first) : bst R first (k + 1) = k := if_pos h
theorem bst_n {R : Nat → Nat} {first k : Nat} (h : ¬ R k ≤ first) : bst R first (k + 1) = bst R first k := if_neg h
theorem sc_drif191 (d n : Nat) {t0 : en_H} {w : Nat → Nat → Nat} {H : Nat → Bool} {x : Nat} (g0 : ai_HG ah_G t0) (hX : CX t0 191 w) (hF : ∀ q, q < 64 → w 1 q ≤ 4) (hx : bts x H) (hH : gin (w 0 0) (w 0 1) H) : ∃ r, en_u (d + 1) 204 [gx_r 191, .inr (.inl x)] t0 n = some r ∧ ∃ y, r = (some (.inr (.inl y)), t0, n, 0) ∧ bts y (dft w H) := by
  obtain ⟨-, -, -, fl, hfl⟩ := hX
  have h9 := bts_drift (w := w) hx (fun s hs => (hfl s hs).2)
  have h8 : bts (((((en_lushr (x &&& fl 0) 8) ||| (en_lshl (x &&& fl 1) 1)) ||| (en_lshl (x &&& fl 2) 8)) ||| (en_lushr (x &&& fl 3) 1)) ||| (x &&& fl 4)) (dft w H) := ⟨h9.1, fun j hj => by rw [dft_drb hF hH hj]; exact h9.2 j hj⟩
  refine en_u_ex rfl ?_
  show en_ex _ _ _ _ (0, [(0, gx_r 191), (1, .inr (.inl x))], [], t0, n, 0) _
  refine ex_go (S := (1, [(0, gx_r 191), (1, .inr (.inl x))], [.inr (.inl x)], t0, n, 0)) rfl (fun _ => rfl) rfl ?_
  refine ex_go (S := (2, [(0, gx_r 191), (1, .inr (.inl x))], [gx_r 191, .inr (.inl x)], t0, n, 0)) rfl (fun _ => rfl) rfl ?_
  refine gxo_ref (a := 191) (c := 239) rfl g0 rfl rfl rfl rfl rfl ?_
  refine ex_go (S := (6, [(0, gx_r 191), (1, .inr (.inl x))], [.inl 0, gx_r 239, .inr (.inl x)], t0, n, 0)) rfl (fun _ => rfl) rfl ?_
  refine gx_ag (v := .inr (.inl (fl 0))) (cb := fun c => Nat.beq c 3) rfl (fun _ => rfl) g0 rfl rfl (hfl 0 (by decide)).1 (by first | decide | omega) rfl ?_
  refine ex_go (S := (8, [(0, gx_r 191), (1, .inr (.inl x))], [.inr (.inl (en_land x (fl 0)))], t0, n, 0)) rfl (fun _ => rfl) rfl ?_
  refine ex_go (S := (10, [(0, gx_r 191), (1, .inr (.inl x))], [.inl 8, .inr (.inl (en_land x (fl 0)))], t0, n, 0)) rfl (fun _ => rfl) rfl ?_
  refine ex_go (S := (11, [(0, gx_r 191), (1, .inr (.inl x))], [.inr (.inl (en_lushr (en_land x (fl 0)) 8))], t0, n, 0)) rfl (fun _ => rfl) rfl ?_
  refine ex_go (S := (12, [(0, gx_r 191), (1, .inr (.inl x))], [.inr (.inl x), .inr (.inl (en_lushr (en_land x (fl 0)) 8))], t0, n, 0)) rfl (fun _ => rfl) rfl ?_
  refine ex_go (S := (13, [(0, gx_r 191), (1, .inr (.inl x))], [gx_r 191, .inr (.inl x), .inr (.inl (en_lushr (en_land x (fl 0)) 8))], t0, n, 0)) rfl (fun _ => rfl) rfl ?_
  refine gxo_ref (a := 191) (c := 239) rfl g0 rfl rfl rfl rfl rfl ?_
  refine ex_go (S := (17, [(0, gx_r 191), (1, .inr (.inl x))], [.inl 1, gx_r 239, .inr (.inl x), .inr (.inl (en_lushr (en_land x (fl 0)) 8))], t0, n, 0)) rfl (fun _ => rfl) rfl ?_
  refine gx_ag (v := .inr (.inl (fl 1))) (cb := fun c => Nat.beq c 3) rfl (fun _ => rfl) g0 rfl rfl (hfl 1 (by decide)).1 (by first | decide | omega) rfl ?_
  refine ex_go (S := (19, [(0, gx_r 191), (1, .inr (.inl x))], [.inr (.inl (en_land x (fl 1))), .inr (.inl (en_lushr (en_land x (fl 0)) 8))], t0, n, 0)) rfl (fun _ => rfl) rfl ?_
  refine ex_go (S := (20, [(0, gx_r 191), (1, .inr (.inl x))], [.inl 1, .inr (.inl (en_land x (fl 1))), .inr (.inl (en_lushr (en_land x (fl 0)) 8))], t0, n, 0)) rfl (fun _ => rfl) rfl ?_
  refine ex_go (S := (21, [(0, gx_r 191), (1, .inr (.inl x))], [.inr (.inl (en_lshl (en_land x (fl 1)) 1)), .inr (.inl (en_lushr (en_land x (fl 0)) 8))], t0, n, 0)) rfl (fun _ => rfl) rfl ?_
  refine ex_go (S := (22, [(0, gx_r 191), (1, .inr (.inl x))], [.inr (.inl (en_lor (en_lushr (en_land x (fl 0)) 8) (en_lshl (en_land x (fl 1)) 1)))], t0, n, 0)) rfl (fun _ => rfl) rfl ?_
  refine ex_go (S := (23, [(0, gx_r 191), (1, .inr (.inl x))], [.inr (.inl x), .inr (.inl (en_lor (en_lushr (en_land x (fl 0)) 8) (en_lshl (en_land x (fl 1)) 1)))], t0, n, 0)) rfl (fun _ => rfl) rfl ?_
  refine ex_go (S := (24, [(0, gx_r 191), (1, .inr (.inl x))], [gx_r 191, .inr (.inl x), .inr (.inl (en_lor (en_lushr (en_land x (fl 0)) 8) (en_lshl (en_land x (fl 1)) 1)))], t0, n, 0)) rfl (fun _ => rfl) rfl ?_
  refine gxo_ref (a := 191) (c := 239) rfl g0 rfl rfl rfl rfl rfl ?_
  refine ex_go (S := (28, [(0, gx_r 191), (1, .inr (.inl x))], [.inl 2, gx_r 239, .inr (.inl x), .inr (.inl (en_lor (en_lushr (en_land x (fl 0)) 8) (en_lshl (en_land x (fl 1)) 1)))], t0, n, 0)) rfl (fun _ => rfl) rfl ?_
  refine gx_ag (v := .inr (.inl (fl 2))) (cb := fun c => Nat.beq c 3) rfl (fun _ => rfl) g0 rfl rfl (hfl 2 (by decide)).1 (by first | decide | omega) rfl ?_
  refine ex_go (S := (30, [(0, gx_r 191), (1, .inr (.inl x))], [.inr (.inl (en_land x (fl 2))), .inr (.inl (en_lor (en_lushr (en_land x (fl 0)) 8) (en_lshl (en_land x (fl 1)) 1)))], t0, n, 0)) rfl (fun _ => rfl) rfl ?_
  refine ex_go (S := (32, [(0, gx_r 191), (1, .inr (.inl x))], [.inl 8, .inr (.inl (en_land x (fl 2))), .inr (.inl (en_lor (en_lushr (en_land x (fl 0)) 8) (en_lshl (en_land x (fl 1)) 1)))], t0, n, 0)) rfl (fun _ => rfl) rfl ?_
  refine ex_go (S := (33, [(0, gx_r 191), (1, .inr (.inl x))], [.inr (.inl (en_lshl (en_land x (fl 2)) 8)), .inr (.inl (en_lor (en_lushr (en_land x (fl 0)) 8) (en_lshl (en_land x (fl 1)) 1)))], t0, n, 0)) rfl (fun _ => rfl) rfl ?_
  refine ex_go (S := (34, [(0, gx_r 191), (1, .inr (.inl x))], [.inr (.inl (en_lor (en_lor (en_lushr (en_land x (fl 0)) 8) (en_lshl (en_land x (fl 1)) 1)) (en_lshl (en_land x (fl 2)) 8)))], t0, n, 0)) rfl (fun _ => rfl) rfl ?_
  refine ex_go (S := (35, [(0, gx_r 191), (1, .inr (.inl x))], [.inr (.inl x), .inr (.inl (en_lor (en_lor (en_lushr (en_land x (fl 0)) 8) (en_lshl (en_land x (fl 1)) 1)) (en_lshl (en_land x (fl 2)) 8)))], t0, n, 0)) rfl (fun _ => rfl) rfl ?_
  refine ex_go (S := (36, [(0, gx_r 191), (1, .inr (.inl x))], [gx_r 191, .inr (.inl x), .inr (.inl (en_lor (en_lor (en_lushr (en_land x (fl 0)) 8) (en_lshl (en_land x (fl 1)) 1)) (en_lshl (en_land x (fl 2)) 8)))], t0, n, 0)) rfl (fun _ => rfl) rfl ?_
  refine gxo_ref (a := 191) (c := 239) rfl g0 rfl rfl rfl rfl rfl ?_
  refine ex_go (S := (40, [(0, gx_r 191), (1, .inr (.inl x))], [.inl 3, gx_r 239, .inr (.inl x), .inr (.inl (en_lor (en_lor (en_lushr (en_land x (fl 0)) 8) (en_lshl (en_land x (fl 1)) 1)) (en_lshl (en_land x (fl 2)) 8)))], t0, n, 0)) rfl (fun _ => rfl) rfl ?_
  refine gx_ag (v := .inr (.inl (fl 3))) (cb := fun c => Nat.beq c 3) rfl (fun _ => rfl) g0 rfl rfl (hfl 3 (by decide)).1 (by first | decide | omega) rfl ?_
  refine ex_go (S := (42, [(0, gx_r 191), (1, .inr (.inl x))], [.inr (.inl (en_land x (fl 3))), .inr (.inl (en_lor (en_lor (en_lushr (en_land x (fl 0)) 8) (en_lshl (en_land x (fl 1)) 1)) (en_lshl (en_land x (fl 2)) 8)))], t0, n, 0)) rfl (fun _ => rfl) rfl ?_
  refine ex_go (S := (43, [(0, gx_r 191), (1, .inr (.inl x))], [.inl 1, .inr (.inl (en_land x (fl 3))), .inr (.inl (en_lor (en_lor (en_lushr (en_land x (fl 0)) 8) (en_lshl (en_land x (fl 1)) 1)) (en_lshl (en_land x (fl 2)) 8)))], t0, n, 0)) rfl (fun _ => rfl) rfl ?_
  refine ex_go (S := (44, [(0, gx_r 191), (1, .inr (.inl x))], [.inr (.inl (en_lushr (en_land x (fl 3)) 1)), .inr (.inl (en_lor (en_lor (en_lushr (en_land x (fl 0)) 8) (en_lshl (en_land x (fl 1)) 1)) (en_lshl (en_land x (fl 2)) 8)))], t0, n, 0)) rfl (fun _ => rfl) rfl ?_
  refine ex_go (S := (45, [(0, gx_r 191), (1, .inr (.inl x))], [.inr (.inl (en_lor (en_lor (en_lor (en_lushr (en_land x (fl 0)) 8) (en_lshl (en_land x (fl 1)) 1)) (en_lshl (en_land x (fl 2)) 8)) (en_lushr (en_land x (fl 3)) 1)))], t0, n, 0)) rfl (fun _ => rfl) rfl ?_
  refine ex_go (S := (46, [(0, gx_r 191), (1, .inr (.inl x))], [.inr (.inl x), .inr (.inl (en_lor (en_lor (en_lor (en_lushr (en_land x (fl 0)) 8) (en_lshl (en_land x (fl 1)) 1)) (en_lshl (en_land x (fl 2)) 8)) (en_lushr (en_land x (fl 3)) 1)))], t0, n, 0)) rfl (fun _ => rfl) rfl ?_
  refine ex_go (S := (47, [(0, gx_r 191), (1, .inr (.inl x))], [gx_r 191, .inr (.inl x), .inr (.inl (en_lor (en_lor (en_lor (en_lushr (en_land x (fl 0)) 8) (en_lshl (en_land x (fl 1)) 1)) (en_lshl (en_land x (fl 2)) 8)) (en_lushr (en_land x (fl 3)) 1)))], t0, n, 0)) rfl (fun _ => rfl) rfl ?_
  refine gxo_ref (a := 191) (c := 239) rfl g0 rfl rfl rfl rfl rfl ?_
  refine ex_go (S := (51, [(0, gx_r 191), (1, .inr (.inl x))], [.inl 4, gx_r 239, .inr (.inl x), .inr (.inl (en_lor (en_lor (en_lor (en_lushr (en_land x (fl 0)) 8) (en_lshl (en_land x (fl 1)) 1)) (en_lshl (en_land x (fl 2)) 8)) (en_lushr (en_land x (fl 3)) 1)))], t0, n, 0)) rfl (fun _ => rfl) rfl ?_
  refine gx_ag (v := .inr (.inl (fl 4))) (cb := fun c => Nat.beq c 3) rfl (fun _ => rfl) g0 rfl rfl (hfl 4 (by decide)).1 (by first | decide | omega) rfl ?_
  refine ex_go (S := (53, [(0, gx_r 191), (1, .inr (.inl x))], [.inr (.inl (en_land x (fl 4))), .inr (.inl (en_lor (en_lor (en_lor (en_lushr (en_land x (fl 0)) 8) (en_lshl (en_land x (fl 1)) 1)) (en_lshl (en_land x (fl 2)) 8)) (en_lushr (en_land x (fl 3)) 1)))], t0, n, 0)) rfl (fun _ => rfl) rfl ?_
  refine ex_go (S := (54, [(0, gx_r 191), (1, .inr (.inl x))], [.inr (.inl (en_lor (en_lor (en_lor (en_lor (en_lushr (en_land x (fl 0)) 8) (en_lshl (en_land x (fl 1)) 1)) (en_lshl (en_land x (fl 2)) 8)) (en_lushr (en_land x (fl 3)) 1)) (en_land x (fl 4))))], t0, n, 0)) rfl (fun _ => rfl) rfl ?_
  rw [sz_dri hx.1 (hfl 0 (by decide)).2.1 (hfl 1 (by decide)).2.1 (hfl 2 (by decide)).2.1 (hfl 3 (by decide)).2.1 (hfl 4 (by decide)).2.1]
  refine ex_ret (r := (some (.inr (.inl ((((((en_lushr (x &&& fl 0) 8) ||| (en_lshl (x &&& fl 1) 1)) ||| (en_lshl (x &&& fl 2) 8)) ||| (en_lushr (x &&& fl 3) 1)) ||| (x &&& fl 4))))), t0, n, 0)) rfl (fun _ => rfl) ?_
  exact ⟨_, rfl, _, rfl, h8⟩
theorem sc_drif257 (d n : Nat) {t0 : en_H} {w : Nat → Nat → Nat} {H : Nat → Bool} {x : Nat} (g0 : ai_HG ah_G t0) (hX : CX t0 257 w) (hF : ∀ q, q < 64 → w 1 q ≤ 4) (hx : bts x H) (hH : gin (w 0 0) (w 0 1) H) : ∃ r, en_u (d + 1) 204 [gx_r 257, .inr (.inl x)] t0 n = some r ∧ ∃ y, r = (some (.inr (.inl y)), t0, n, 0) ∧ bts y (dft w H) := by
  obtain ⟨-, -, -, fl, hfl⟩ := hX
  have h9 := bts_drift (w := w) hx (fun s hs => (hfl s hs).2)
  have h8 : bts (((((en_lushr (x &&& fl 0) 8) ||| (en_lshl (x &&& fl 1) 1)) ||| (en_lshl (x &&& fl 2) 8)) ||| (en_lushr (x &&& fl 3) 1)) ||| (x &&& fl 4)) (dft w H) := ⟨h9.1, fun j hj => by rw [dft_drb hF hH hj]; exact h9.2 j hj⟩
  refine en_u_ex rfl ?_
  show en_ex _ _ _ _ (0, [(0, gx_r 257), (1, .inr (.inl x))], [], t0, n, 0) _
  refine ex_go (S := (1, [(0, gx_r 257), (1, .inr (.inl x))], [.inr (.inl x)], t0, n, 0)) rfl (fun _ => rfl) rfl ?_
  refine ex_go (S := (2, [(0, gx_r 257), (1, .inr (.inl x))], [gx_r 257, .inr (.inl x)], t0, n, 0)) rfl (fun _ => rfl) rfl ?_
  refine gxo_ref (a := 257) (c := 305) rfl g0 rfl rfl rfl rfl rfl ?_
  refine ex_go (S := (6, [(0, gx_r 257), (1, .inr (.inl x))], [.inl 0, gx_r 305, .inr (.inl x)], t0, n, 0)) rfl (fun _ => rfl) rfl ?_
  refine gx_ag (v := .inr (.inl (fl 0))) (cb := fun c => Nat.beq c 3) rfl (fun _ => rfl) g0 rfl rfl (hfl 0 (by decide)).1 (by first | decide | omega) rfl ?_
  refine ex_go (S := (8, [(0, gx_r 257), (1, .inr (.inl x))], [.inr (.inl (en_land x (fl 0)))], t0, n, 0)) rfl (fun _ => rfl) rfl ?_
  refine ex_go (S := (10, [(0, gx_r 257), (1, .inr (.inl x))], [.inl 8, .inr (.inl (en_land x (fl 0)))], t0, n, 0)) rfl (fun _ => rfl) rfl ?_
  refine ex_go (S := (11, [(0, gx_r 257), (1, .inr (.inl x))], [.inr (.inl (en_lushr (en_land x (fl 0)) 8))], t0, n, 0)) rfl (fun _ => rfl) rfl ?_
  refine ex_go (S := (12, [(0, gx_r 257), (1, .inr (.inl x))], [.inr (.inl x), .inr (.inl (en_lushr (en_land x (fl 0)) 8))], t0, n, 0)) rfl (fun _ => rfl) rfl ?_
  refine ex_go (S := (13, [(0, gx_r 257), (1, .inr (.inl x))], [gx_r 257, .inr (.inl x), .inr (.inl (en_lushr (en_land x (fl 0)) 8))], t0, n, 0)) rfl (fun _ => rfl) rfl ?_
  refine gxo_ref (a := 257) (c := 305) rfl g0 rfl rfl rfl rfl rfl ?_
  refine ex_go (S := (17, [(0, gx_r 257), (1, .inr (.inl x))], [.inl 1, gx_r 305, .inr (.inl x), .inr (.inl (en_lushr (en_land x (fl 0)) 8))], t0, n, 0)) rfl (fun _ => rfl) rfl ?_
  refine gx_ag (v := .inr (.inl (fl 1))) (cb := fun c => Nat.beq c 3) rfl (fun _ => rfl) g0 rfl rfl (hfl 1 (by decide)).1 (by first | decide | omega) rfl ?_
  refine ex_go (S := (19, [(0, gx_r 257), (1, .inr (.inl x))], [.inr (.inl (en_land x (fl 1))), .inr (.inl (en_lushr (en_land x (fl 0)) 8))], t0, n, 0)) rfl (fun _ => rfl) rfl ?_
  refine ex_go (S := (20, [(0, gx_r 257), (1, .inr (.inl x))], [.inl 1, .inr (.inl (en_land x (fl 1))), .inr (.inl (en_lushr (en_land x (fl 0)) 8))], t0, n, 0)) rfl (fun _ => rfl) rfl ?_
  refine ex_go (S := (21, [(0, gx_r 257), (1, .inr (.inl x))], [.inr (.inl (en_lshl (en_land x (fl 1)) 1)), .inr (.inl (en_lushr (en_land x (fl 0)) 8))], t0, n, 0)) rfl (fun _ => rfl) rfl ?_
  refine ex_go (S := (22, [(0, gx_r 257), (1, .inr (.inl x))], [.inr (.inl (en_lor (en_lushr (en_land x (fl 0)) 8) (en_lshl (en_land x (fl 1)) 1)))], t0, n, 0)) rfl (fun _ => rfl) rfl ?_
  refine ex_go (S := (23, [(0, gx_r 257), (1, .inr (.inl x))], [.inr (.inl x), .inr (.inl (en_lor (en_lushr (en_land x (fl 0)) 8) (en_lshl (en_land x (fl 1)) 1)))], t0, n, 0)) rfl (fun _ => rfl) rfl ?_
  refine ex_go (S := (24, [(0, gx_r 257), (1, .inr (.inl x))], [gx_r 257, .inr (.inl x), .inr (.inl (en_lor (en_lushr (en_land x (fl 0)) 8) (en_lshl (en_land x (fl 1)) 1)))], t0, n, 0)) rfl (fun _ => rfl) rfl ?_
  refine gxo_ref (a := 257) (c := 305) rfl g0 rfl rfl rfl rfl rfl ?_
  refine ex_go (S := (28, [(0, gx_r 257), (1, .inr (.inl x))], [.inl 2, gx_r 305, .inr (.inl x), .inr (.inl (en_lor (en_lushr (en_land x (fl 0)) 8) (en_lshl (en_land x (fl 1)) 1)))], t0, n, 0)) rfl (fun _ => rfl) rfl ?_
  refine gx_ag (v := .inr (.inl (fl 2))) (cb := fun c => Nat.beq c 3) rfl (fun _ => rfl) g0 rfl rfl (hfl 2 (by decide)).1 (by first | decide | omega) rfl ?_
  refine ex_go (S := (30, [(0, gx_r 257), (1, .inr (.inl x))], [.inr (.inl (en_land x (fl 2))), .inr (.inl (en_lor (en_lushr (en_land x (fl 0)) 8) (en_lshl (en_land x (fl 1)) 1)))], t0, n, 0)) rfl (fun _ => rfl) rfl ?_
  refine ex_go (S := (32, [(0, gx_r 257), (1, .inr (.inl x))], [.inl 8, .inr (.inl (en_land x (fl 2))), .inr (.inl (en_lor (en_lushr (en_land x (fl 0)) 8) (en_lshl (en_land x (fl 1)) 1)))], t0, n, 0)) rfl (fun _ => rfl) rfl ?_
  refine ex_go (S := (33, [(0, gx_r 257), (1, .inr (.inl x))], [.inr (.inl (en_lshl (en_land x (fl 2)) 8)), .inr (.inl (en_lor (en_lushr (en_land x (fl 0)) 8) (en_lshl (en_land x (fl 1)) 1)))], t0, n, 0)) rfl (fun _ => rfl) rfl ?_
  refine ex_go (S := (34, [(0, gx_r 257), (1, .inr (.inl x))], [.inr (.inl (en_lor (en_lor (en_lushr (en_land x (fl 0)) 8) (en_lshl (en_land x (fl 1)) 1)) (en_lshl (en_land x (fl 2)) 8)))], t0, n, 0)) rfl (fun _ => rfl) rfl ?_
  refine ex_go (S := (35, [(0, gx_r 257), (1, .inr (.inl x))], [.inr (.inl x), .inr (.inl (en_lor (en_lor (en_lushr (en_land x (fl 0)) 8) (en_lshl (en_land x (fl 1)) 1)) (en_lshl (en_land x (fl 2)) 8)))], t0, n, 0)) rfl (fun _ => rfl) rfl ?_
  refine ex_go (S := (36, [(0, gx_r 257), (1, .inr (.inl x))], [gx_r 257, .inr (.inl x), .inr (.inl (en_lor (en_lor (en_lushr (en_land x (fl 0)) 8) (en_lshl (en_land x (fl 1)) 1)) (en_lshl (en_land x (fl 2)) 8)))], t0, n, 0)) rfl (fun _ => rfl) rfl ?_
  refine gxo_ref (a := 257) (c := 305) rfl g0 rfl rfl rfl rfl rfl ?_
  refine ex_go (S := (40, [(0, gx_r 257), (1, .inr (.inl x))], [.inl 3, gx_r 305, .inr (.inl x), .inr (.inl (en_lor (en_lor (en_lushr (en_land x (fl 0)) 8) (en_lshl (en_land x (fl 1)) 1)) (en_lshl (en_land x (fl 2)) 8)))], t0, n, 0)) rfl (fun _ => rfl) rfl ?_
  refine gx_ag (v := .inr (.inl (fl 3))) (cb := fun c => Nat.beq c 3) rfl (fun _ => rfl) g0 rfl rfl (hfl 3 (by decide)).1 (by first | decide | omega) rfl ?_
  refine ex_go (S := (42, [(0, gx_r 257), (1, .inr (.inl x))], [.inr (.inl (en_land x (fl 3))), .inr (.inl (en_lor (en_lor (en_lushr (en_land x (fl 0)) 8) (en_lshl (en_land x (fl 1)) 1)) (en_lshl (en_land x (fl 2)) 8)))], t0, n, 0)) rfl (fun _ => rfl) rfl ?_
  refine ex_go (S := (43, [(0, gx_r 257), (1, .inr (.inl x))], [.inl 1, .inr (.inl (en_land x (fl 3))), .inr (.inl (en_lor (en_lor (en_lushr (en_land x (fl 0)) 8) (en_lshl (en_land x (fl 1)) 1)) (en_lshl (en_land x (fl 2)) 8)))], t0, n, 0)) rfl (fun _ => rfl) rfl ?_
  refine ex_go (S := (44, [(0, gx_r 257), (1, .inr (.inl x))], [.inr (.inl (en_lushr (en_land x (fl 3)) 1)), .inr (.inl (en_lor (en_lor (en_lushr (en_land x (fl 0)) 8) (en_lshl (en_land x (fl 1)) 1)) (en_lshl (en_land x (fl 2)) 8)))], t0, n, 0)) rfl (fun _ => rfl) rfl ?_
  refine ex_go (S := (45, [(0, gx_r 257), (1, .inr (.inl x))], [.inr (.inl (en_lor (en_lor (en_lor (en_lushr (en_land x (fl 0)) 8) (en_lshl (en_land x (fl 1)) 1)) (en_lshl (en_land x (fl 2)) 8)) (en_lushr (en_land x (fl 3)) 1)))], t0, n, 0)) rfl (fun _ => rfl) rfl ?_
  refine ex_go (S := (46, [(0, gx_r 257), (1, .inr (.inl x))], [.inr (.inl x), .inr (.inl (en_lor (en_lor (en_lor (en_lushr (en_land x (fl 0)) 8) (en_lshl (en_land x (fl 1)) 1)) (en_lshl (en_land x (fl 2)) 8)) (en_lushr (en_land x (fl 3)) 1)))], t0, n, 0)) rfl (fun _ => rfl) rfl ?_
  refine ex_go (S := (47, [(0, gx_r 257), (1, .inr (.inl x))], [gx_r 257, .inr (.inl x), .inr (.inl (en_lor (en_lor (en_lor (en_lushr (en_land x (fl 0)) 8) (en_lshl (en_land x (fl 1)) 1)) (en_lshl (en_land x (fl 2)) 8)) (en_lushr (en_land x (fl 3)) 1)))], t0, n, 0)) rfl (fun _ => rfl) rfl ?_
  refine gxo_ref (a := 257) (c := 305) rfl g0 rfl rfl rfl rfl rfl ?_
  refine ex_go (S := (51, [(0, gx_r 257), (1, .inr (.inl x))], [.inl 4, gx_r 305, .inr (.inl x), .inr (.inl (en_lor (en_lor (en_lor (en_lushr (en_land x (fl 0)) 8) (en_lshl (en_land x (fl 1)) 1)) (en_lshl (en_land x (fl 2)) 8)) (en_lushr (en_land x (fl 3)) 1)))], t0, n, 0)) rfl (fun _ => rfl) rfl ?_
  refine gx_ag (v := .inr (.inl (fl 4))) (cb := fun c => Nat.beq c 3) rfl (fun _ => rfl) g0 rfl rfl (hfl 4 (by decide)).1 (by first | decide | omega) rfl ?_
  refine ex_go (S := (53, [(0, gx_r 257), (1, .inr (.inl x))], [.inr (.inl (en_land x (fl 4))), .inr (.inl (en_lor (en_lor (en_lor (en_lushr (en_land x (fl 0)) 8) (en_lshl (en_land x (fl 1)) 1)) (en_lshl (en_land x (fl 2)) 8)) (en_lushr (en_land x (fl 3)) 1)))], t0, n, 0)) rfl (fun _ => rfl) rfl ?_
  refine ex_go (S := (54, [(0, gx_r 257), (1, .inr (.inl x))], [.inr (.inl (en_lor (en_lor (en_lor (en_lor (en_lushr (en_land x (fl 0)) 8) (en_lshl (en_land x (fl 1)) 1)) (en_lshl (en_land x (fl 2)) 8)) (en_lushr (en_land x (fl 3)) 1)) (en_land x (fl 4))))], t0, n, 0)) rfl (fun _ => rfl) rfl ?_
  rw [sz_dri hx.1 (hfl 0 (by decide)).2.1 (hfl 1 (by decide)).2.1 (hfl 2 (by decide)).2.1 (hfl 3 (by decide)).2.1 (hfl 4 (by decide)).2.1]
  refine ex_ret (r := (some (.inr (.inl ((((((en_lushr (x &&& fl 0) 8) ||| (en_lshl (x &&& fl 1) 1)) ||| (en_lshl (x &&& fl 2) 8)) ||| (en_lushr (x &&& fl 3) 1)) ||| (x &&& fl 4))))), t0, n, 0)) rfl (fun _ => rfl) ?_
  exact ⟨_, rfl, _, rfl, h8⟩
theorem so_l191 (d n : Nat) {t0 : en_H} {w : Nat → Nat → Nat} {L : List Nat} {σ : Nat → Nat} {lt v0 : Nat} {Q : en_O → Prop} (g0 : ai_HG ah_G t0) (hC : CW t0 191 w L) (hw : WS w) (hX : CX t0 191 w) (k10 : ai_hv t0 0 10 = some (gx_r 191)) (hF : ∀ q, q < 64 → w 1 q ≤ 4) (k8 : ai_hv t0 8 0 = some (.inl (σ 0))) (hB : σ 0 ≤ 900000) (hlt : lt ≤ 120) (hQ : Q (.inl (some (.inl v0), t0, n, 0))) : ∀ j k cl H x g, k + j = lt + 1 → bts x H → gin (w 0 0) (w 0 1) H → g < 64 → snw w (σ 0) j k H g = v0 → en_ld cl 0 = some (gx_r 0) → en_ld cl 4 = some (.inl lt) → en_ld cl 5 = some (.inr (.inl x)) → en_ld cl 7 = some (.inl g) → en_ld cl 8 = some (.inl k) → en_ex none (en_u (d + 3)) (en_code 132) (fun _ => false) (44, cl, [], t0, n, 0) Q := by
  intro j
  induction j with
  | zero =>
    intro k cl H x g hk hx hH hg hv l0 l4 l5 l7 l8
    have hv : 4294967295 = v0 := hv
    refine gx_ld (i := 8) (d := 0) (v := .inl k) rfl (fun _ => rfl) l8 rfl rfl ?_
    refine gx_ld (i := 4) (d := 0) (v := .inl lt) rfl (fun _ => rfl) l4 rfl rfl ?_
    refine gx_2t (c := .gt) rfl (by first | decide | omega) (by first | decide | omega) (show lt < k from by omega) rfl ?_
    refine ex_go (S := (115, cl, [.inl 4294967295], t0, n, 0)) rfl (fun _ => rfl) rfl ?_
    refine ex_ret (r := (some (.inl 4294967295), t0, n, 0)) rfl (fun _ => rfl) ?_
    rw [hv]
    exact hQ
  | succ j ih =>
    intro k cl H x g hk hx hH hg hv l0 l4 l5 l7 l8
    have fg := (hC.2.1 g hg).2
    have gg := fto_lt hw hg
    refine gx_ld (i := 8) (d := 0) (v := .inl k) rfl (fun _ => rfl) l8 rfl rfl ?_
    refine gx_ld (i := 4) (d := 0) (v := .inl lt) rfl (fun _ => rfl) l4 rfl rfl ?_
    refine gx_2f (c := .gt) rfl (by first | decide | omega) (by first | decide | omega) (show ¬ (lt < k) from by omega) rfl ?_
    refine gx_ld (i := 0) (d := 2) (v := gx_r 0) rfl (fun _ => rfl) l0 rfl rfl ?_
    refine gxo_get (a := 0) rfl g0 rfl rfl k10 rfl ?_
    refine gx_ld (i := 5) (d := 1) (v := .inr (.inl x)) rfl (fun _ => rfl) l5 rfl rfl ?_
    refine gx_ld (i := 0) (d := 2) (v := gx_r 0) rfl (fun _ => rfl) l0 rfl rfl ?_
    refine gxo_ref (a := 0) (c := 8) rfl g0 rfl rfl rfl rfl rfl ?_
    refine gxo_get (a := 8) rfl g0 rfl rfl k8 rfl ?_
    refine gx_ld (i := 8) (d := 0) (v := .inl k) rfl (fun _ => rfl) l8 rfl rfl ?_
    refine ex_iadd rfl (by first | decide | omega) rfl ?_
    obtain ⟨_, r1, y, rfl, hy⟩ := sc_hauled191 d n (H := H) (s := σ 0 + k) (x := x) g0 hC hX hw (by first | decide | omega) hx
    refine gx_callo (a := 191) rfl rfl g0 rfl rfl rfl r1 rfl ?_
    show en_ex _ _ _ _ (70, cl, [.inr (.inl y)], t0, n, 0) _
    refine gx_sto (i := 5) (d := 1) rfl (fun _ => rfl) rfl rfl (fun l21 hl21 ml21 => ?_)
    have l21_0 : en_ld l21 0 = some (gx_r 0) := ml21 0 _ l0 rfl
    have l21_4 : en_ld l21 4 = some (.inl lt) := ml21 4 _ l4 rfl
    have l21_7 : en_ld l21 7 = some (.inl g) := ml21 7 _ l7 rfl
    have l21_8 : en_ld l21 8 = some (.inl k) := ml21 8 _ l8 rfl
    refine gx_ld (i := 5) (d := 1) (v := .inr (.inl y)) rfl (fun _ => rfl) hl21 rfl rfl ?_
    refine gx_ld (i := 7) (d := 0) (v := .inl g) rfl (fun _ => rfl) l21_7 rfl rfl ?_
    obtain ⟨_, r2, rfl⟩ := pz_has (d + 1) n (t0 := t0) (x := y) (k := g) hy.1 hg
    rw [bts_at hy hg] at r2
    cases ho : hit w (σ 0 + k) (w 0 5) H g
    · rw [ho] at r2
      rw [snw_f ho] at hv
      refine ex_stat rfl rfl rfl rfl rfl r2 (Nat.le_refl _) rfl ?_
      show en_ex _ _ _ _ (79, l21, [.inl 0], t0, n, 0) _
      refine ex_go (S := (85, l21, [], t0, n, 0)) rfl (fun _ => rfl) rfl ?_
      refine gx_ld (i := 0) (d := 2) (v := gx_r 0) rfl (fun _ => rfl) l21_0 rfl rfl ?_
      refine gxo_get (a := 0) rfl g0 rfl rfl k10 rfl ?_
      refine gx_ld (i := 5) (d := 1) (v := .inr (.inl y)) rfl (fun _ => rfl) hl21 rfl rfl ?_
      obtain ⟨_, r3, x3, rfl, hx3⟩ := sc_drif191 (d + 2) n (H := hit w (σ 0 + k) (w 0 5) H) (x := y) g0 hX hF hy (hit_gin hw.1.1 hH _)
      refine gx_callo (a := 191) rfl rfl g0 rfl rfl rfl r3 rfl ?_
      show en_ex _ _ _ _ (94, l21, [.inr (.inl x3)], t0, n, 0) _
      refine gx_sto (i := 5) (d := 1) rfl (fun _ => rfl) rfl rfl (fun l22 hl22 ml22 => ?_)
      have l22_0 : en_ld l22 0 = some (gx_r 0) := ml22 0 _ l21_0 rfl
      have l22_4 : en_ld l22 4 = some (.inl lt) := ml22 4 _ l21_4 rfl
      have l22_7 : en_ld l22 7 = some (.inl g) := ml22 7 _ l21_7 rfl
      have l22_8 : en_ld l22 8 = some (.inl k) := ml22 8 _ l21_8 rfl
      refine gx_ld (i := 0) (d := 2) (v := gx_r 0) rfl (fun _ => rfl) l22_0 rfl rfl ?_
      refine gxo_get (a := 0) rfl g0 rfl rfl k10 rfl ?_
      refine gxo_ref (a := 191) (c := 193) rfl g0 rfl rfl rfl rfl rfl ?_
      refine gx_ld (i := 7) (d := 0) (v := .inl g) rfl (fun _ => rfl) l22_7 rfl rfl ?_
      refine gx_ag (v := .inl (fto w g)) (cb := fun c => Nat.beq c 0) rfl (fun _ => rfl) g0 rfl rfl fg (by first | decide | omega) rfl ?_
      refine gx_sto (i := 7) (d := 0) rfl (fun _ => rfl) rfl rfl (fun l23 hl23 ml23 => ?_)
      have l23_0 : en_ld l23 0 = some (gx_r 0) := ml23 0 _ l22_0 rfl
      have l23_4 : en_ld l23 4 = some (.inl lt) := ml23 4 _ l22_4 rfl
      have l23_8 : en_ld l23 8 = some (.inl k) := ml23 8 _ l22_8 rfl
      have l23_5 : en_ld l23 5 = some (.inr (.inl x3)) := ml23 5 _ hl22 rfl
      refine gx_incS (i := 8) (a := k) (x := 1) rfl (fun _ => rfl) l23_8 (by first | decide | omega) rfl (fun l24 hl24 ml24 => ?_)
      have l24_0 : en_ld l24 0 = some (gx_r 0) := ml24 0 _ l23_0 rfl
      have l24_4 : en_ld l24 4 = some (.inl lt) := ml24 4 _ l23_4 rfl
      have l24_5 : en_ld l24 5 = some (.inr (.inl x3)) := ml24 5 _ l23_5 rfl
      have l24_7 : en_ld l24 7 = some (.inl (fto w g)) := ml24 7 _ hl23 rfl
      refine ex_go (S := (44, l24, [], t0, n, 0)) rfl (fun _ => rfl) rfl ?_
      exact ih (k + 1) _ _ _ _ (by first | decide | omega) hx3 (dft_gin hw.1.1 (hit_gin hw.1.1 hH _)) gg hv l24_0 l24_4 l24_5 l24_7 hl24
    · rw [ho] at r2
      rw [snw_t ho] at hv
      refine ex_stat rfl rfl rfl rfl rfl r2 (Nat.le_refl _) rfl ?_
      show en_ex _ _ _ _ (79, l21, [.inl 1], t0, n, 0) _
      refine ex_go (S := (82, l21, [], t0, n, 0)) rfl (fun _ => rfl) rfl ?_
      refine gx_ld (i := 8) (d := 0) (v := .inl k) rfl (fun _ => rfl) l21_8 rfl rfl ?_
      refine ex_ret (r := (some (.inl k), t0, n, 0)) rfl (fun _ => rfl) ?_
      rw [hv]
      exact hQ
theorem sc_soon191 (d n : Nat) {t0 : en_H} {w : Nat → Nat → Nat} {L : List Nat} {σ : Nat → Nat} {a b s lt : Nat} (g0 : ai_HG ah_G t0) (hC : CW t0 191 w L) (hw : WS w) (hX : CX t0 191 w) (k10 : ai_hv t0 0 10 = some (gx_r 191)) (hF : ∀ q, q < 64 → w 1 q ≤ 4) (hS : SC t0 8 (w 0 2) (w 0 4) σ) (hB : σ 0 ≤ 900000) (hz : ∀ i, i < w 0 2 → σ (1 + i) < 64 ∧ inG (w 0 0) (w 0 1) (σ (1 + i)) = true) (ha : a < w 0 2) (hb : b < w 0 2) (hs : s ≤ 60) (hlt : lt ≤ 120) : ∃ r, en_u (d + 4) 132 [gx_r 0, .inl a, .inl b, .inl s, .inl lt] t0 n = some r ∧ r = (some (.inl (snR w σ a b (lt + 1 - s) s)), t0, n, 0) := by
  have hT := hw.1.2.2.1
  obtain ⟨za, ga⟩ := hz a ha
  obtain ⟨zb, gb⟩ := hz b hb
  have ja := jmp_lt (F := w 1) hw.1.1 hw.1.2.1 za s
  have jb := jmp_lt (F := w 1) hw.1.1 hw.1.2.1 zb s
  refine en_u_ex (d := d + 3) rfl ?_
  show en_ex _ _ _ _ (0, [(0, gx_r 0), (1, .inl a), (2, .inl b), (3, .inl s), (4, .inl lt)], [], t0, n, 0) _
  refine ex_go (S := (1, [(0, gx_r 0), (1, .inl a), (2, .inl b), (3, .inl s), (4, .inl lt)], [gx_r 0], t0, n, 0)) rfl (fun _ => rfl) rfl ?_
  refine gxo_get (a := 0) rfl g0 rfl rfl k10 rfl ?_
  refine ex_go (S := (5, [(0, gx_r 0), (1, .inl a), (2, .inl b), (3, .inl s), (4, .inl lt)], [gx_r 0, gx_r 191], t0, n, 0)) rfl (fun _ => rfl) rfl ?_
  refine gxo_ref (a := 0) (c := 8) rfl g0 rfl rfl rfl rfl rfl ?_
  refine gxo_ref (a := 8) (c := 9) rfl g0 rfl rfl rfl rfl rfl ?_
  refine ex_go (S := (12, [(0, gx_r 0), (1, .inl a), (2, .inl b), (3, .inl s), (4, .inl lt)], [.inl a, gx_r 9, gx_r 191], t0, n, 0)) rfl (fun _ => rfl) rfl ?_
  refine gx_ag (v := .inl (σ (1 + a))) (cb := fun c => Nat.beq c 0) rfl (fun _ => rfl) g0 rfl rfl (hS.2.1 a ha) (by first | decide | omega) rfl ?_
  refine ex_go (S := (14, [(0, gx_r 0), (1, .inl a), (2, .inl b), (3, .inl s), (4, .inl lt)], [.inl s, .inl (σ (1 + a)), gx_r 191], t0, n, 0)) rfl (fun _ => rfl) rfl ?_
  obtain ⟨_, r21, rfl⟩ := sc_after191 (d + 2) n (x := σ (1 + a)) (s := s) g0 hw hX (by first | decide | omega) (by first | decide | omega)
  refine gx_callo (a := 191) rfl rfl g0 rfl rfl rfl r21 rfl ?_
  show en_ex _ _ _ _ (17, [(0, gx_r 0), (1, .inl a), (2, .inl b), (3, .inl s), (4, .inl lt)], [.inl (jmp (w 0 0) (w 0 1) (w 1) s (σ (1 + a)))], t0, n, 0) _
  obtain ⟨_, r22, rfl⟩ := pz_bit (d + 2) n (t0 := t0) (x := jmp (w 0 0) (w 0 1) (w 1) s (σ (1 + a))) (by first | decide | omega)
  refine ex_stat rfl rfl rfl rfl rfl r22 (Nat.le_refl _) rfl ?_
  show en_ex _ _ _ _ (20, [(0, gx_r 0), (1, .inl a), (2, .inl b), (3, .inl s), (4, .inl lt)], [.inr (.inl (2 ^ (jmp (w 0 0) (w 0 1) (w 1) s (σ (1 + a)))))], t0, n, 0) _
  refine ex_go (S := (22, [(5, .inr (.inl (2 ^ (jmp (w 0 0) (w 0 1) (w 1) s (σ (1 + a)))))), (0, gx_r 0), (1, .inl a), (2, .inl b), (3, .inl s), (4, .inl lt)], [], t0, n, 0)) rfl (fun _ => rfl) rfl ?_
  refine ex_go (S := (23, [(5, .inr (.inl (2 ^ (jmp (w 0 0) (w 0 1) (w 1) s (σ (1 + a)))))), (0, gx_r 0), (1, .inl a), (2, .inl b), (3, .inl s), (4, .inl lt)], [gx_r 0], t0, n, 0)) rfl (fun _ => rfl) rfl ?_
  refine gxo_get (a := 0) rfl g0 rfl rfl k10 rfl ?_
  refine ex_go (S := (27, [(5, .inr (.inl (2 ^ (jmp (w 0 0) (w 0 1) (w 1) s (σ (1 + a)))))), (0, gx_r 0), (1, .inl a), (2, .inl b), (3, .inl s), (4, .inl lt)], [gx_r 0, gx_r 191], t0, n, 0)) rfl (fun _ => rfl) rfl ?_
  refine gxo_ref (a := 0) (c := 8) rfl g0 rfl rfl rfl rfl rfl ?_
  refine gxo_ref (a := 8) (c := 9) rfl g0 rfl rfl rfl rfl rfl ?_
  refine ex_go (S := (34, [(5, .inr (.inl (2 ^ (jmp (w 0 0) (w 0 1) (w 1) s (σ (1 + a)))))), (0, gx_r 0), (1, .inl a), (2, .inl b), (3, .inl s), (4, .inl lt)], [.inl b, gx_r 9, gx_r 191], t0, n, 0)) rfl (fun _ => rfl) rfl ?_
  refine gx_ag (v := .inl (σ (1 + b))) (cb := fun c => Nat.beq c 0) rfl (fun _ => rfl) g0 rfl rfl (hS.2.1 b hb) (by first | decide | omega) rfl ?_
  refine ex_go (S := (36, [(5, .inr (.inl (2 ^ (jmp (w 0 0) (w 0 1) (w 1) s (σ (1 + a)))))), (0, gx_r 0), (1, .inl a), (2, .inl b), (3, .inl s), (4, .inl lt)], [.inl s, .inl (σ (1 + b)), gx_r 191], t0, n, 0)) rfl (fun _ => rfl) rfl ?_
  obtain ⟨_, r23, rfl⟩ := sc_after191 (d + 2) n (x := σ (1 + b)) (s := s) g0 hw hX (by first | decide | omega) (by first | decide | omega)
  refine gx_callo (a := 191) rfl rfl g0 rfl rfl rfl r23 rfl ?_
  show en_ex _ _ _ _ (39, [(5, .inr (.inl (2 ^ (jmp (w 0 0) (w 0 1) (w 1) s (σ (1 + a)))))), (0, gx_r 0), (1, .inl a), (2, .inl b), (3, .inl s), (4, .inl lt)], [.inl (jmp (w 0 0) (w 0 1) (w 1) s (σ (1 + b)))], t0, n, 0) _
  refine ex_go (S := (41, [(7, .inl (jmp (w 0 0) (w 0 1) (w 1) s (σ (1 + b)))), (5, .inr (.inl (2 ^ (jmp (w 0 0) (w 0 1) (w 1) s (σ (1 + a)))))), (0, gx_r 0), (1, .inl a), (2, .inl b), (3, .inl s), (4, .inl lt)], [], t0, n, 0)) rfl (fun _ => rfl) rfl ?_
  refine ex_go (S := (42, [(7, .inl (jmp (w 0 0) (w 0 1) (w 1) s (σ (1 + b)))), (5, .inr (.inl (2 ^ (jmp (w 0 0) (w 0 1) (w 1) s (σ (1 + a)))))), (0, gx_r 0), (1, .inl a), (2, .inl b), (3, .inl s), (4, .inl lt)], [.inl s], t0, n, 0)) rfl (fun _ => rfl) rfl ?_
  refine ex_go (S := (44, [(8, .inl s), (7, .inl (jmp (w 0 0) (w 0 1) (w 1) s (σ (1 + b)))), (5, .inr (.inl (2 ^ (jmp (w 0 0) (w 0 1) (w 1) s (σ (1 + a)))))), (0, gx_r 0), (1, .inl a), (2, .inl b), (3, .inl s), (4, .inl lt)], [], t0, n, 0)) rfl (fun _ => rfl) rfl ?_
  by_cases hsl : s ≤ lt + 1
  · refine so_l191 d n g0 hC hw hX k10 hF hS.1 hB hlt (v0 := snR w σ a b (lt + 1 - s) s) ⟨_, rfl, rfl⟩ (lt + 1 - s) s _ (fun q => decide (q = jmp (w 0 0) (w 0 1) (w 1) s (σ (1 + a)))) _ _ (by first | decide | omega) (bts_mk (sz_two ja) (fun j hj => by rw [Nat.testBit_two_pow, decide_eq_decide]; exact eq_comm)) (fun j hj h => by rw [of_decide_eq_true h]; exact jmp_in hw.1.1 ga s) jb rfl rfl rfl rfl rfl rfl
  · have e9 : snR w σ a b (lt + 1 - s) s = 4294967295 := by unfold snR; rw [show lt + 1 - s = 0 by omega]; rfl
    rw [e9]
    refine ex_go (S := (46, [(8, .inl s), (7, .inl (jmp (w 0 0) (w 0 1) (w 1) s (σ (1 + b)))), (5, .inr (.inl (2 ^ (jmp (w 0 0) (w 0 1) (w 1) s (σ (1 + a)))))), (0, gx_r 0), (1, .inl a), (2, .inl b), (3, .inl s), (4, .inl lt)], [.inl s], t0, n, 0)) rfl (fun _ => rfl) rfl ?_
    refine ex_go (S := (48, [(8, .inl s), (7, .inl (jmp (w 0 0) (w 0 1) (w 1) s (σ (1 + b)))), (5, .inr (.inl (2 ^ (jmp (w 0 0) (w 0 1) (w 1) s (σ (1 + a)))))), (0, gx_r 0), (1, .inl a), (2, .inl b), (3, .inl s), (4, .inl lt)], [.inl lt, .inl s], t0, n, 0)) rfl (fun _ => rfl) rfl ?_
    refine gx_2t (c := .gt) rfl (by first | decide | omega) (by first | decide | omega) (show lt < s from by omega) rfl ?_
    refine ex_go (S := (115, [(8, .inl s), (7, .inl (jmp (w 0 0) (w 0 1) (w 1) s (σ (1 + b)))), (5, .inr (.inl (2 ^ (jmp (w 0 0) (w 0 1) (w 1) s (σ (1 + a)))))), (0, gx_r 0), (1, .inl a), (2, .inl b), (3, .inl s), (4, .inl lt)], [.inl 4294967295], t0, n, 0)) rfl (fun _ => rfl) rfl ?_
    refine ex_ret (r := (some (.inl 4294967295), t0, n, 0)) rfl (fun _ => rfl) ?_
    exact ⟨_, rfl, rfl⟩
theorem so_l257 (d n : Nat) {t0 : en_H} {w : Nat → Nat → Nat} {L : List Nat} {σ : Nat → Nat} {lt v0 : Nat} {Q : en_O → Prop} (g0 : ai_HG ah_G t0) (hC : CW t0 257 w L) (hw : WS w) (hX : CX t0 257 w) (k10 : ai_hv t0 0 10 = some (gx_r 257)) (hF : ∀ q, q < 64 → w 1 q ≤ 4) (k8 : ai_hv t0 8 0 = some (.inl (σ 0))) (hB : σ 0 ≤ 900000) (hlt : lt ≤ 120) (hQ : Q (.inl (some (.inl v0), t0, n, 0))) : ∀ j k cl H x g, k + j = lt + 1 → bts x H → gin (w 0 0) (w 0 1) H → g < 64 → snw w (σ 0) j k H g = v0 → en_ld cl 0 = some (gx_r 0) → en_ld cl 4 = some (.inl lt) → en_ld cl 5 = some (.inr (.inl x)) → en_ld cl 7 = some (.inl g) → en_ld cl 8 = some (.inl k) → en_ex none (en_u (d + 3)) (en_code 132) (fun _ => false) (44, cl, [], t0, n, 0) Q := by
  intro j
  induction j with
  | zero =>
    intro k cl H x g hk hx hH hg hv l0 l4 l5 l7 l8
    have hv : 4294967295 = v0 := hv
    refine gx_ld (i := 8) (d := 0) (v := .inl k) rfl (fun _ => rfl) l8 rfl rfl ?_
    refine gx_ld (i := 4) (d := 0) (v := .inl lt) rfl (fun _ => rfl) l4 rfl rfl ?_
    refine gx_2t (c := .gt) rfl (by first | decide | omega) (by first | decide | omega) (show lt < k from by omega) rfl ?_
    refine ex_go (S := (115, cl, [.inl 4294967295], t0, n, 0)) rfl (fun _ => rfl) rfl ?_
    refine ex_ret (r := (some (.inl 4294967295), t0, n, 0)) rfl (fun _ => rfl) ?_
    rw [hv]
    exact hQ
  | succ j ih =>
    intro k cl H x g hk hx hH hg hv l0 l4 l5 l7 l8
    have fg := (hC.2.1 g hg).2
    have gg := fto_lt hw hg
    refine gx_ld (i := 8) (d := 0) (v := .inl k) rfl (fun _ => rfl) l8 rfl rfl ?_
    refine gx_ld (i := 4) (d := 0) (v := .inl lt) rfl (fun _ => rfl) l4 rfl rfl ?_
    refine gx_2f (c := .gt) rfl (by first | decide | omega) (by first | decide | omega) (show ¬ (lt < k) from by omega) rfl ?_
    refine gx_ld (i := 0) (d := 2) (v := gx_r 0) rfl (fun _ => rfl) l0 rfl rfl ?_
    refine gxo_get (a := 0) rfl g0 rfl rfl k10 rfl ?_
    refine gx_ld (i := 5) (d := 1) (v := .inr (.inl x)) rfl (fun _ => rfl) l5 rfl rfl ?_
    refine gx_ld (i := 0) (d := 2) (v := gx_r 0) rfl (fun _ => rfl) l0 rfl rfl ?_
    refine gxo_ref (a := 0) (c := 8) rfl g0 rfl rfl rfl rfl rfl ?_
    refine gxo_get (a := 8) rfl g0 rfl rfl k8 rfl ?_
    refine gx_ld (i := 8) (d := 0) (v := .inl k) rfl (fun _ => rfl) l8 rfl rfl ?_
    refine ex_iadd rfl (by first | decide | omega) rfl ?_
    obtain ⟨_, r1, y, rfl, hy⟩ := sc_hauled257 d n (H := H) (s := σ 0 + k) (x := x) g0 hC hX hw (by first | decide | omega) hx
    refine gx_callo (a := 257) rfl rfl g0 rfl rfl rfl r1 rfl ?_
    show en_ex _ _ _ _ (70, cl, [.inr (.inl y)], t0, n, 0) _
    refine gx_sto (i := 5) (d := 1) rfl (fun _ => rfl) rfl rfl (fun l21 hl21 ml21 => ?_)
    have l21_0 : en_ld l21 0 = some (gx_r 0) := ml21 0 _ l0 rfl
    have l21_4 : en_ld l21 4 = some (.inl lt) := ml21 4 _ l4 rfl
    have l21_7 : en_ld l21 7 = some (.inl g) := ml21 7 _ l7 rfl
    have l21_8 : en_ld l21 8 = some (.inl k) := ml21 8 _ l8 rfl
    refine gx_ld (i := 5) (d := 1) (v := .inr (.inl y)) rfl (fun _ => rfl) hl21 rfl rfl ?_
    refine gx_ld (i := 7) (d := 0) (v := .inl g) rfl (fun _ => rfl) l21_7 rfl rfl ?_
    obtain ⟨_, r2, rfl⟩ := pz_has (d + 1) n (t0 := t0) (x := y) (k := g) hy.1 hg
    rw [bts_at hy hg] at r2
    cases ho : hit w (σ 0 + k) (w 0 5) H g
    · rw [ho] at r2
      rw [snw_f ho] at hv
      refine ex_stat rfl rfl rfl rfl rfl r2 (Nat.le_refl _) rfl ?_
      show en_ex _ _ _ _ (79, l21, [.inl 0], t0, n, 0) _
      refine ex_go (S := (85, l21, [], t0, n, 0)) rfl (fun _ => rfl) rfl ?_
      refine gx_ld (i := 0) (d := 2) (v := gx_r 0) rfl (fun _ => rfl) l21_0 rfl rfl ?_
      refine gxo_get (a := 0) rfl g0 rfl rfl k10 rfl ?_
      refine gx_ld (i := 5) (d := 1) (v := .inr (.inl y)) rfl (fun _ => rfl) hl21 rfl rfl ?_
      obtain ⟨_, r3, x3, rfl, hx3⟩ := sc_drif257 (d + 2) n (H := hit w (σ 0 + k) (w 0 5) H) (x := y) g0 hX hF hy (hit_gin hw.1.1 hH _)
      refine gx_callo (a := 257) rfl rfl g0 rfl rfl rfl r3 rfl ?_
      show en_ex _ _ _ _ (94, l21, [.inr (.inl x3)], t0, n, 0) _
      refine gx_sto (i := 5) (d := 1) rfl (fun _ => rfl) rfl rfl (fun l22 hl22 ml22 => ?_)
      have l22_0 : en_ld l22 0 = some (gx_r 0) := ml22 0 _ l21_0 rfl
      have l22_4 : en_ld l22 4 = some (.inl lt) := ml22 4 _ l21_4 rfl
      have l22_7 : en_ld l22 7 = some (.inl g) := ml22 7 _ l21_7 rfl
      have l22_8 : en_ld l22 8 = some (.inl k) := ml22 8 _ l21_8 rfl
      refine gx_ld (i := 0) (d := 2) (v := gx_r 0) rfl (fun _ => rfl) l22_0 rfl rfl ?_
      refine gxo_get (a := 0) rfl g0 rfl rfl k10 rfl ?_
      refine gxo_ref (a := 257) (c := 259) rfl g0 rfl rfl rfl rfl rfl ?_
      refine gx_ld (i := 7) (d := 0) (v := .inl g) rfl (fun _ => rfl) l22_7 rfl rfl ?_
      refine gx_ag (v := .inl (fto w g)) (cb := fun c => Nat.beq c 0) rfl (fun _ => rfl) g0 rfl rfl fg (by first | decide | omega) rfl ?_
      refine gx_sto (i := 7) (d := 0) rfl (fun _ => rfl) rfl rfl (fun l23 hl23 ml23 => ?_)
      have l23_0 : en_ld l23 0 = some (gx_r 0) := ml23 0 _ l22_0 rfl
      have l23_4 : en_ld l23 4 = some (.inl lt) := ml23 4 _ l22_4 rfl
      have l23_8 : en_ld l23 8 = some (.inl k) := ml23 8 _ l22_8 rfl
      have l23_5 : en_ld l23 5 = some (.inr (.inl x3)) := ml23 5 _ hl22 rfl
      refine gx_incS (i := 8) (a := k) (x := 1) rfl (fun _ => rfl) l23_8 (by first | decide | omega) rfl (fun l24 hl24 ml24 => ?_)
      have l24_0 : en_ld l24 0 = some (gx_r 0) := ml24 0 _ l23_0 rfl
      have l24_4 : en_ld l24 4 = some (.inl lt) := ml24 4 _ l23_4 rfl
      have l24_5 : en_ld l24 5 = some (.inr (.inl x3)) := ml24 5 _ l23_5 rfl
      have l24_7 : en_ld l24 7 = some (.inl (fto w g)) := ml24 7 _ hl23 rfl
      refine ex_go (S := (44, l24, [], t0, n, 0)) rfl (fun _ => rfl) rfl ?_
      exact ih (k + 1) _ _ _ _ (by first | decide | omega) hx3 (dft_gin hw.1.1 (hit_gin hw.1.1 hH _)) gg hv l24_0 l24_4 l24_5 l24_7 hl24
    · rw [ho] at r2
      rw [snw_t ho] at hv
      refine ex_stat rfl rfl rfl rfl rfl r2 (Nat.le_refl _) rfl ?_
      show en_ex _ _ _ _ (79, l21, [.inl 1], t0, n, 0) _
      refine ex_go (S := (82, l21, [], t0, n, 0)) rfl (fun _ => rfl) rfl ?_
      refine gx_ld (i := 8) (d := 0) (v := .inl k) rfl (fun _ => rfl) l21_8 rfl rfl ?_
      refine ex_ret (r := (some (.inl k), t0, n, 0)) rfl (fun _ => rfl) ?_
      rw [hv]
      exact hQ
theorem sc_soon257 (d n : Nat) {t0 : en_H} {w : Nat → Nat → Nat} {L : List Nat} {σ : Nat → Nat} {a b s lt : Nat} (g0 : ai_HG ah_G t0) (hC : CW t0 257 w L) (hw : WS w) (hX : CX t0 257 w) (k10 : ai_hv t0 0 10 = some (gx_r 257)) (hF : ∀ q, q < 64 → w 1 q ≤ 4) (hS : SC t0 8 (w 0 2) (w 0 4) σ) (hB : σ 0 ≤ 900000) (hz : ∀ i, i < w 0 2 → σ (1 + i) < 64 ∧ inG (w 0 0) (w 0 1) (σ (1 + i)) = true) (ha : a < w 0 2) (hb : b < w 0 2) (hs : s ≤ 60) (hlt : lt ≤ 120) : ∃ r, en_u (d + 4) 132 [gx_r 0, .inl a, .inl b, .inl s, .inl lt] t0 n = some r ∧ r = (some (.inl (snR w σ a b (lt + 1 - s) s)), t0, n, 0) := by
  have hT := hw.1.2.2.1
  obtain ⟨za, ga⟩ := hz a ha
  obtain ⟨zb, gb⟩ := hz b hb
  have ja := jmp_lt (F := w 1) hw.1.1 hw.1.2.1 za s
  have jb := jmp_lt (F := w 1) hw.1.1 hw.1.2.1 zb s
  refine en_u_ex (d := d + 3) rfl ?_
  show en_ex _ _ _ _ (0, [(0, gx_r 0), (1, .inl a), (2, .inl b), (3, .inl s), (4, .inl lt)], [], t0, n, 0) _
  refine ex_go (S := (1, [(0, gx_r 0), (1, .inl a), (2, .inl b), (3, .inl s), (4, .inl lt)], [gx_r 0], t0, n, 0)) rfl (fun _ => rfl) rfl ?_
  refine gxo_get (a := 0) rfl g0 rfl rfl k10 rfl ?_
  refine ex_go (S := (5, [(0, gx_r 0), (1, .inl a), (2, .inl b), (3, .inl s), (4, .inl lt)], [gx_r 0, gx_r 257], t0, n, 0)) rfl (fun _ => rfl) rfl ?_
  refine gxo_ref (a := 0) (c := 8) rfl g0 rfl rfl rfl rfl rfl ?_
  refine gxo_ref (a := 8) (c := 9) rfl g0 rfl rfl rfl rfl rfl ?_
  refine ex_go (S := (12, [(0, gx_r 0), (1, .inl a), (2, .inl b), (3, .inl s), (4, .inl lt)], [.inl a, gx_r 9, gx_r 257], t0, n, 0)) rfl (fun _ => rfl) rfl ?_
  refine gx_ag (v := .inl (σ (1 + a))) (cb := fun c => Nat.beq c 0) rfl (fun _ => rfl) g0 rfl rfl (hS.2.1 a ha) (by first | decide | omega) rfl ?_
  refine ex_go (S := (14, [(0, gx_r 0), (1, .inl a), (2, .inl b), (3, .inl s), (4, .inl lt)], [.inl s, .inl (σ (1 + a)), gx_r 257], t0, n, 0)) rfl (fun _ => rfl) rfl ?_
  obtain ⟨_, r21, rfl⟩ := sc_after257 (d + 2) n (x := σ (1 + a)) (s := s) g0 hw hX (by first | decide | omega) (by first | decide | omega)
  refine gx_callo (a := 257) rfl rfl g0 rfl rfl rfl r21 rfl ?_
  show en_ex _ _ _ _ (17, [(0, gx_r 0), (1, .inl a), (2, .inl b), (3, .inl s), (4, .inl lt)], [.inl (jmp (w 0 0) (w 0 1) (w 1) s (σ (1 + a)))], t0, n, 0) _
  obtain ⟨_, r22, rfl⟩ := pz_bit (d + 2) n (t0 := t0) (x := jmp (w 0 0) (w 0 1) (w 1) s (σ (1 + a))) (by first | decide | omega)
  refine ex_stat rfl rfl rfl rfl rfl r22 (Nat.le_refl _) rfl ?_
  show en_ex _ _ _ _ (20, [(0, gx_r 0), (1, .inl a), (2, .inl b), (3, .inl s), (4, .inl lt)], [.inr (.inl (2 ^ (jmp (w 0 0) (w 0 1) (w 1) s (σ (1 + a)))))], t0, n, 0) _
  refine ex_go (S := (22, [(5, .inr (.inl (2 ^ (jmp (w 0 0) (w 0 1) (w 1) s (σ (1 + a)))))), (0, gx_r 0), (1, .inl a), (2, .inl b), (3, .inl s), (4, .inl lt)], [], t0, n, 0)) rfl (fun _ => rfl) rfl ?_
  refine ex_go (S := (23, [(5, .inr (.inl (2 ^ (jmp (w 0 0) (w 0 1) (w 1) s (σ (1 + a)))))), (0, gx_r 0), (1, .inl a), (2, .inl b), (3, .inl s), (4, .inl lt)], [gx_r 0], t0, n, 0)) rfl (fun _ => rfl) rfl ?_
  refine gxo_get (a := 0) rfl g0 rfl rfl k10 rfl ?_
  refine ex_go (S := (27, [(5, .inr (.inl (2 ^ (jmp (w 0 0) (w 0 1) (w 1) s (σ (1 + a)))))), (0, gx_r 0), (1, .inl a), (2, .inl b), (3, .inl s), (4, .inl lt)], [gx_r 0, gx_r 257], t0, n, 0)) rfl (fun _ => rfl) rfl ?_
  refine gxo_ref (a := 0) (c := 8) rfl g0 rfl rfl rfl rfl rfl ?_
  refine gxo_ref (a := 8) (c := 9) rfl g0 rfl rfl rfl rfl rfl ?_
  refine ex_go (S := (34, [(5, .inr (.inl (2 ^ (jmp (w 0 0) (w 0 1) (w 1) s (σ (1 + a)))))), (0, gx_r 0), (1, .inl a), (2, .inl b), (3, .inl s), (4, .inl lt)], [.inl b, gx_r 9, gx_r 257], t0, n, 0)) rfl (fun _ => rfl) rfl ?_
  refine gx_ag (v := .inl (σ (1 + b))) (cb := fun c => Nat.beq c 0) rfl (fun _ => rfl) g0 rfl rfl (hS.2.1 b hb) (by first | decide | omega) rfl ?_
  refine ex_go (S := (36, [(5, .inr (.inl (2 ^ (jmp (w 0 0) (w 0 1) (w 1) s (σ (1 + a)))))), (0, gx_r 0), (1, .inl a), (2, .inl b), (3, .inl s), (4, .inl lt)], [.inl s, .inl (σ (1 + b)), gx_r 257], t0, n, 0)) rfl (fun _ => rfl) rfl ?_
  obtain ⟨_, r23, rfl⟩ := sc_after257 (d + 2) n (x := σ (1 + b)) (s := s) g0 hw hX (by first | decide | omega) (by first | decide | omega)
  refine gx_callo (a := 257) rfl rfl g0 rfl rfl rfl r23 rfl ?_
  show en_ex _ _ _ _ (39, [(5, .inr (.inl (2 ^ (jmp (w 0 0) (w 0 1) (w 1) s (σ (1 + a)))))), (0, gx_r 0), (1, .inl a), (2, .inl b), (3, .inl s), (4, .inl lt)], [.inl (jmp (w 0 0) (w 0 1) (w 1) s (σ (1 + b)))], t0, n, 0) _
  refine ex_go (S := (41, [(7, .inl (jmp (w 0 0) (w 0 1) (w 1) s (σ (1 + b)))), (5, .inr (.inl (2 ^ (jmp (w 0 0) (w 0 1) (w 1) s (σ (1 + a)))))), (0, gx_r 0), (1, .inl a), (2, .inl b), (3, .inl s), (4, .inl lt)], [], t0, n, 0)) rfl (fun _ => rfl) rfl ?_
  refine ex_go (S := (42, [(7, .inl (jmp (w 0 0) (w 0 1) (w 1) s (σ (1 + b)))), (5, .inr (.inl (2 ^ (jmp (w 0 0) (w 0 1) (w 1) s (σ (1 + a)))))), (0, gx_r 0), (1, .inl a), (2, .inl b), (3, .inl s), (4, .inl lt)], [.inl s], t0, n, 0)) rfl (fun _ => rfl) rfl ?_
  refine ex_go (S := (44, [(8, .inl s), (7, .inl (jmp (w 0 0) (w 0 1) (w 1) s (σ (1 + b)))), (5, .inr (.inl (2 ^ (jmp (w 0 0) (w 0 1) (w 1) s (σ (1 + a)))))), (0, gx_r 0), (1, .inl a), (2, .inl b), (3, .inl s), (4, .inl lt)], [], t0, n, 0)) rfl (fun _ => rfl) rfl ?_
  by_cases hsl : s ≤ lt + 1
  · refine so_l257 d n g0 hC hw hX k10 hF hS.1 hB hlt (v0 := snR w σ a b (lt + 1 - s) s) ⟨_, rfl, rfl⟩ (lt + 1 - s) s _ (fun q => decide (q = jmp (w 0 0) (w 0 1) (w 1) s (σ (1 + a)))) _ _ (by first | decide | omega) (bts_mk (sz_two ja) (fun j hj => by rw [Nat.testBit_two_pow, decide_eq_decide]; exact eq_comm)) (fun j hj h => by rw [of_decide_eq_true h]; exact jmp_in hw.1.1 ga s) jb rfl rfl rfl rfl rfl rfl
  · have e9 : snR w σ a b (lt + 1 - s) s = 4294967295 := by unfold snR; rw [show lt + 1 - s = 0 by omega]; rfl
    rw [e9]
    refine ex_go (S := (46, [(8, .inl s), (7, .inl (jmp (w 0 0) (w 0 1) (w 1) s (σ (1 + b)))), (5, .inr (.inl (2 ^ (jmp (w 0 0) (w 0 1) (w 1) s (σ (1 + a)))))), (0, gx_r 0), (1, .inl a), (2, .inl b), (3, .inl s), (4, .inl lt)], [.inl s], t0, n, 0)) rfl (fun _ => rfl) rfl ?_
    refine ex_go (S := (48, [(8, .inl s), (7, .inl (jmp (w 0 0) (w 0 1) (w 1) s (σ (1 + b)))), (5, .inr (.inl (2 ^ (jmp (w 0 0) (w 0 1) (w 1) s (σ (1 + a)))))), (0, gx_r 0), (1, .inl a), (2, .inl b), (3, .inl s), (4, .inl lt)], [.inl lt, .inl s], t0, n, 0)) rfl (fun _ => rfl) rfl ?_
    refine gx_2t (c := .gt) rfl (by first | decide | omega) (by first | decide | omega) (show lt < s from by omega) rfl ?_
    refine ex_go (S := (115, [(8, .inl s), (7, .inl (jmp (w 0 0) (w 0 1) (w 1) s (σ (1 + b)))), (5, .inr (.inl (2 ^ (jmp (w 0 0) (w 0 1) (w 1) s (σ (1 + a)))))), (0, gx_r 0), (1, .inl a), (2, .inl b), (3, .inl s), (4, .inl lt)], [.inl 4294967295], t0, n, 0)) rfl (fun _ => rfl) rfl ?_
    refine ex_ret (r := (some (.inl 4294967295), t0, n, 0)) rfl (fun _ => rfl) ?_
    exact ⟨_, rfl, rfl⟩
theorem ro_a (d n : Nat) {tb : en_H} {g m : Nat} {Q : en_O → Prop} (hQ : ∀ cl t1, ai_HG ah_G t1 → (∀ c i, ¬ c = 402 → ai_hv t1 c i = ai_hv tb c i) → (∀ q, q < 64 → ai_hv t1 402 q = some (.inl 0)) → en_ld cl 0 = some (gx_r 383) → en_ld cl 4 = some (.inl g) → en_ld cl 5 = some (.inl m) → en_ex none (en_u (d + 4)) (en_code 133) (fun _ => false) (105, cl, [], t1, n, 0) Q) : ∀ j k cl t0, k + j = 64 → ai_HG ah_G t0 → (∀ c i, ¬ c = 402 → ai_hv t0 c i = ai_hv tb c i) → (∀ q, q < k → ai_hv t0 402 q = some (.inl 0)) → en_ld cl 0 = some (gx_r 383) → en_ld cl 4 = some (.inl g) → en_ld cl 5 = some (.inl m) → en_ld cl 6 = some (.inl k) → en_ex none (en_u (d + 4)) (en_code 133) (fun _ => false) (84, cl, [], t0, n, 0) Q := by
  intro j
  induction j with
  | zero =>
    intro k cl t0 hk g0 e0 i0 l0 l4 l5 l6
    have hk : k = 64 := by omega
    subst hk
    refine gx_ld (i := 6) (d := 0) (v := .inl 64) rfl (fun _ => rfl) l6 rfl rfl ?_
    refine ex_go (S := (88, cl, [.inl 64, .inl 64], t0, n, 0)) rfl (fun _ => rfl) rfl ?_
    refine ex_go (S := (105, cl, [], t0, n, 0)) rfl (fun _ => rfl) rfl ?_
    exact hQ _ _ g0 e0 i0 l0 l4 l5
  | succ j ih =>
    intro k cl t0 hk g0 e0 i0 l0 l4 l5 l6
    refine gx_ld (i := 6) (d := 0) (v := .inl k) rfl (fun _ => rfl) l6 rfl rfl ?_
    refine ex_go (S := (88, cl, [.inl 64, .inl k], t0, n, 0)) rfl (fun _ => rfl) rfl ?_
    refine gx_2f (c := .ge) rfl (by first | decide | omega) (by first | decide | omega) (show ¬ (64 ≤ k) from by omega) rfl ?_
    refine gx_ld (i := 0) (d := 2) (v := gx_r 383) rfl (fun _ => rfl) l0 rfl rfl ?_
    refine gx_ref (c := 402) rfl g0 rfl rfl rfl rfl ?_
    refine gx_ld (i := 6) (d := 0) (v := .inl k) rfl (fun _ => rfl) l6 rfl rfl ?_
    refine ex_go (S := (98, cl, [.inl 0, .inl k, gx_r 402], t0, n, 0)) rfl (fun _ => rfl) rfl ?_
    refine gx_apv (d := 2) rfl (fun _ => rfl) g0 rfl rfl (st_fit (by first | decide | omega)) (show k < 64 from by omega) (gx_run1 (show k < 64 from by omega)) (ai_in_h (by first | decide | omega) (by first | decide | omega) (by first | decide | omega)) rfl (fun t121 g121 k121 e121 => ?_)
    refine gx_incS (i := 6) (a := k) (x := 1) rfl (fun _ => rfl) l6 (by first | decide | omega) rfl (fun l22 hl22 ml22 => ?_)
    have l22_0 : en_ld l22 0 = some (gx_r 383) := ml22 0 _ l0 rfl
    have l22_4 : en_ld l22 4 = some (.inl g) := ml22 4 _ l4 rfl
    have l22_5 : en_ld l22 5 = some (.inl m) := ml22 5 _ l5 rfl
    refine ex_go (S := (84, l22, [], t121, n, 0)) rfl (fun _ => rfl) rfl ?_
    refine ih (k + 1) _ t121 (by first | decide | omega) g121 (fun c i h => (e121 c i (by first | decide | omega)).trans (e0 c i h)) (fun q hq => ?_) l22_0 l22_4 l22_5 hl22
    by_cases e9 : q = k
    · subst e9; exact k121
    · exact (e121 402 q (by first | decide | omega)).trans (i0 q (by first | decide | omega))
theorem ro_b (d n : Nat) {tb : en_H} {w : Nat → Nat → Nat} {L : List Nat} {H : Nat → Bool} {g m : Nat} {Q : en_O → Prop} (hR : RW tb w L) (hH : HB tb 401 H) (hQ : ∀ cl t1, ai_HG ah_G t1 → (∀ c i, ¬ c = 402 → ai_hv t1 c i = ai_hv tb c i) → HB t1 402 (dft w H) → en_ld cl 0 = some (gx_r 383) → en_ld cl 4 = some (.inl g) → en_ld cl 5 = some (.inl m) → en_ex none (en_u (d + 4)) (en_code 133) (fun _ => false) (143, cl, [], t1, n, 0) Q) : ∀ j k cl t0, k + j = 64 → ai_HG ah_G t0 → (∀ c i, ¬ c = 402 → ai_hv t0 c i = ai_hv tb c i) → (∀ q, q < 64 → ai_hv t0 402 q = some (.inl (bv (dfn w H q k)))) → en_ld cl 0 = some (gx_r 383) → en_ld cl 4 = some (.inl g) → en_ld cl 5 = some (.inl m) → en_ld cl 6 = some (.inl k) → en_ex none (en_u (d + 4)) (en_code 133) (fun _ => false) (108, cl, [], t0, n, 0) Q := by
  intro j
  induction j with
  | zero =>
    intro k cl t0 hk g0 e0 i0 l0 l4 l5 l6
    have hk : k = 64 := by omega
    subst hk
    refine gx_ld (i := 6) (d := 0) (v := .inl 64) rfl (fun _ => rfl) l6 rfl rfl ?_
    refine ex_go (S := (112, cl, [.inl 64, .inl 64], t0, n, 0)) rfl (fun _ => rfl) rfl ?_
    refine ex_go (S := (143, cl, [], t0, n, 0)) rfl (fun _ => rfl) rfl ?_
    exact hQ _ _ g0 e0 i0 l0 l4 l5
  | succ j ih =>
    intro k cl t0 hk g0 e0 i0 l0 l4 l5 l6
    have kh := (e0 401 k (by first | decide | omega)).trans (hH k (by first | decide | omega))
    have hb := bv_le (b := H k)
    have hfl := fto_lt (WS_of hR) (q := k) (by first | decide | omega)
    refine gx_ld (i := 6) (d := 0) (v := .inl k) rfl (fun _ => rfl) l6 rfl rfl ?_
    refine ex_go (S := (112, cl, [.inl 64, .inl k], t0, n, 0)) rfl (fun _ => rfl) rfl ?_
    refine gx_2f (c := .ge) rfl (by first | decide | omega) (by first | decide | omega) (show ¬ (64 ≤ k) from by omega) rfl ?_
    refine gx_ld (i := 0) (d := 2) (v := gx_r 383) rfl (fun _ => rfl) l0 rfl rfl ?_
    refine gx_ref (c := 401) rfl g0 rfl rfl rfl rfl ?_
    refine gx_ld (i := 6) (d := 0) (v := .inl k) rfl (fun _ => rfl) l6 rfl rfl ?_
    refine gx_ag (v := .inl (bv (H k))) (cb := fun c => Nat.beq c 2 || Nat.beq c 1) rfl (fun _ => rfl) g0 rfl rfl kh (by first | decide | omega) rfl ?_
    by_cases hc21 : bv (H k) = 0
    · refine gx_1t (c := .eq) rfl (by first | decide | omega) hc21 rfl ?_
      refine gx_incS (i := 6) (a := k) (x := 1) rfl (fun _ => rfl) l6 (by first | decide | omega) rfl (fun l22 hl22 ml22 => ?_)
      have l22_0 : en_ld l22 0 = some (gx_r 383) := ml22 0 _ l0 rfl
      have l22_4 : en_ld l22 4 = some (.inl g) := ml22 4 _ l4 rfl
      have l22_5 : en_ld l22 5 = some (.inl m) := ml22 5 _ l5 rfl
      refine ex_go (S := (108, l22, [], t0, n, 0)) rfl (fun _ => rfl) rfl ?_
      have hHk := bv_0 (b := H k) (by first | decide | omega)
      exact ih (k + 1) _ t0 (by first | decide | omega) g0 e0 (fun q hq => by
        have h8 : dfn w H q (k + 1) = dfn w H q k := by show (dfn w H q k || (H k && decide (fto w k = q))) = _; rw [hHk, Bool.false_and, Bool.or_false]
        rw [h8]; exact i0 q hq) l22_0 l22_4 l22_5 hl22
    · refine gx_1f (c := .eq) rfl (by first | decide | omega) hc21 rfl ?_
      refine gx_ld (i := 0) (d := 2) (v := gx_r 383) rfl (fun _ => rfl) l0 rfl rfl ?_
      refine gx_ref (c := 402) rfl g0 rfl rfl rfl rfl ?_
      refine gx_ld (i := 0) (d := 2) (v := gx_r 383) rfl (fun _ => rfl) l0 rfl rfl ?_
      refine gx_ld (i := 6) (d := 0) (v := .inl k) rfl (fun _ => rfl) l6 rfl rfl ?_
      obtain ⟨_, r23, rfl⟩ := sr_flowsTo (d + 1) n (p := k) g0 (RW_keep hR (fun i hi => e0 389 i (by first | decide | omega)) (fun c i hc _ => e0 c i (by first | decide | omega))) (by first | decide | omega)
      refine gx_call1 rfl rfl g0 rfl rfl r23 rfl ?_
      show en_ex _ _ _ _ (135, cl, [.inl (fto w k), gx_r 402], t0, n, 0) _
      refine ex_go (S := (136, cl, [.inl 1, .inl (fto w k), gx_r 402], t0, n, 0)) rfl (fun _ => rfl) rfl ?_
      refine gx_apv (d := 2) rfl (fun _ => rfl) g0 rfl rfl (st_fit (by first | decide | omega)) (show fto w k < 64 from by omega) (gx_run1 (show fto w k < 64 from by omega)) (ai_in_h (by first | decide | omega) (by first | decide | omega) (by first | decide | omega)) rfl (fun t124 g124 k124 e124 => ?_)
      have k25 : ai_hv t124 401 k = some (.inl (bv (H k))) := (e124 401 k (by first | decide | omega)).trans kh
      refine gx_incS (i := 6) (a := k) (x := 1) rfl (fun _ => rfl) l6 (by first | decide | omega) rfl (fun l26 hl26 ml26 => ?_)
      have l26_0 : en_ld l26 0 = some (gx_r 383) := ml26 0 _ l0 rfl
      have l26_4 : en_ld l26 4 = some (.inl g) := ml26 4 _ l4 rfl
      have l26_5 : en_ld l26 5 = some (.inl m) := ml26 5 _ l5 rfl
      refine ex_go (S := (108, l26, [], t124, n, 0)) rfl (fun _ => rfl) rfl ?_
      have hHk := bv_1 (b := H k) (by first | decide | omega)
      refine ih (k + 1) _ t124 (by first | decide | omega) g124 (fun c i h => (e124 c i (by first | decide | omega)).trans (e0 c i h)) (fun q hq => ?_) l26_0 l26_4 l26_5 hl26
      by_cases e9 : fto w k = q
      · have h8 : bv (dfn w H q (k + 1)) = 1 := bv_t (dfn_iff.mpr ⟨k, by omega, hHk, e9⟩)
        rw [h8, ← e9]; exact k124
      · have h8 : dfn w H q (k + 1) = dfn w H q k := by show (dfn w H q k || (H k && decide (fto w k = q))) = _; rw [decide_eq_false e9, Bool.and_false, Bool.or_false]
        rw [h8]; exact (e124 402 q (by first | decide | omega)).trans (i0 q hq)
theorem ro_c (d n : Nat) {tb : en_H} {H : Nat → Bool} {g m : Nat} {Q : en_O → Prop} (hH : HB tb 402 H) (hQ : ∀ cl t1, ai_HG ah_G t1 → (∀ c i, ¬ c = 401 → ai_hv t1 c i = ai_hv tb c i) → HB t1 401 H → en_ld cl 0 = some (gx_r 383) → en_ld cl 4 = some (.inl g) → en_ld cl 5 = some (.inl m) → en_ex none (en_u (d + 4)) (en_code 133) (fun _ => false) (173, cl, [], t1, n, 0) Q) : ∀ j k cl t0, k + j = 64 → ai_HG ah_G t0 → (∀ c i, ¬ c = 401 → ai_hv t0 c i = ai_hv tb c i) → (∀ q, q < k → ai_hv t0 401 q = some (.inl (bv (H q)))) → en_ld cl 0 = some (gx_r 383) → en_ld cl 4 = some (.inl g) → en_ld cl 5 = some (.inl m) → en_ld cl 6 = some (.inl k) → en_ex none (en_u (d + 4)) (en_code 133) (fun _ => false) (146, cl, [], t0, n, 0) Q := by
  intro j
  induction j with
  | zero =>
    intro k cl t0 hk g0 e0 i0 l0 l4 l5 l6
    have hk : k = 64 := by omega
    subst hk
    refine gx_ld (i := 6) (d := 0) (v := .inl 64) rfl (fun _ => rfl) l6 rfl rfl ?_
    refine ex_go (S := (150, cl, [.inl 64, .inl 64], t0, n, 0)) rfl (fun _ => rfl) rfl ?_
    refine ex_go (S := (173, cl, [], t0, n, 0)) rfl (fun _ => rfl) rfl ?_
    exact hQ _ _ g0 e0 i0 l0 l4 l5
  | succ j ih =>
    intro k cl t0 hk g0 e0 i0 l0 l4 l5 l6
    have ks := (e0 402 k (by first | decide | omega)).trans (hH k (by first | decide | omega))
    have hb := bv_le (b := H k)
    refine gx_ld (i := 6) (d := 0) (v := .inl k) rfl (fun _ => rfl) l6 rfl rfl ?_
    refine ex_go (S := (150, cl, [.inl 64, .inl k], t0, n, 0)) rfl (fun _ => rfl) rfl ?_
    refine gx_2f (c := .ge) rfl (by first | decide | omega) (by first | decide | omega) (show ¬ (64 ≤ k) from by omega) rfl ?_
    refine gx_ld (i := 0) (d := 2) (v := gx_r 383) rfl (fun _ => rfl) l0 rfl rfl ?_
    refine gx_ref (c := 401) rfl g0 rfl rfl rfl rfl ?_
    refine gx_ld (i := 6) (d := 0) (v := .inl k) rfl (fun _ => rfl) l6 rfl rfl ?_
    refine gx_ld (i := 0) (d := 2) (v := gx_r 383) rfl (fun _ => rfl) l0 rfl rfl ?_
    refine gx_ref (c := 402) rfl g0 rfl rfl rfl rfl ?_
    refine gx_ld (i := 6) (d := 0) (v := .inl k) rfl (fun _ => rfl) l6 rfl rfl ?_
    refine gx_ag (v := .inl (bv (H k))) (cb := fun c => Nat.beq c 2 || Nat.beq c 1) rfl (fun _ => rfl) g0 rfl rfl ks (by first | decide | omega) rfl ?_
    refine gx_apv (d := 2) rfl (fun _ => rfl) g0 rfl rfl (st_fit (by first | decide | omega)) (show k < 64 from by omega) (gx_run1 (show k < 64 from by omega)) (ai_in_h (by first | decide | omega) (by first | decide | omega) (by first | decide | omega)) rfl (fun t121 g121 k121 e121 => ?_)
    have k22 : ai_hv t121 402 k = some (.inl (bv (H k))) := (e121 402 k (by first | decide | omega)).trans ks
    refine gx_incS (i := 6) (a := k) (x := 1) rfl (fun _ => rfl) l6 (by first | decide | omega) rfl (fun l23 hl23 ml23 => ?_)
    have l23_0 : en_ld l23 0 = some (gx_r 383) := ml23 0 _ l0 rfl
    have l23_4 : en_ld l23 4 = some (.inl g) := ml23 4 _ l4 rfl
    have l23_5 : en_ld l23 5 = some (.inl m) := ml23 5 _ l5 rfl
    refine ex_go (S := (146, l23, [], t121, n, 0)) rfl (fun _ => rfl) rfl ?_
    refine ih (k + 1) _ t121 (by first | decide | omega) g121 (fun c i h => (e121 c i (by first | decide | omega)).trans (e0 c i h)) (fun q hq => ?_) l23_0 l23_4 l23_5 hl23
    by_cases e9 : q = k
    · subst e9; exact k121
    · exact (e121 401 q (by first | decide | omega)).trans (i0 q (by first | decide | omega))
theorem ro_l (d n : Nat) {tb : en_H} {w : Nat → Nat → Nat} {L : List Nat} {σ : Nat → Nat} {v0 : Nat} {Q : en_O → Prop} (hR : RW tb w L) (k0 : ai_hv tb 399 0 = some (.inl (σ 0))) (hB : σ 0 ≤ 900000) (hQ : ∀ t1, ai_HG ah_G t1 → (∀ c i, ¬ (c = 401 ∨ c = 402) → ai_hv t1 c i = ai_hv tb c i) → Q (.inl (some (.inl v0), t1, n, 0))) : ∀ j k cl H t0 g, k + j = 121 → ai_HG ah_G t0 → (∀ c i, ¬ (c = 401 ∨ c = 402) → ai_hv t0 c i = ai_hv tb c i) → HB t0 401 H → g < 64 → snw w (σ 0) j k H g = v0 → en_ld cl 0 = some (gx_r 383) → en_ld cl 4 = some (.inl g) → en_ld cl 5 = some (.inl k) → en_ex none (en_u (d + 4)) (en_code 133) (fun _ => false) (35, cl, [], t0, n, 0) Q := by
  intro j
  induction j with
  | zero =>
    intro k cl H t0 g hk g0 e0 hH hg hv l0 l4 l5
    have hk : k = 121 := by omega
    subst hk
    have hv : 4294967295 = v0 := hv
    refine gx_ld (i := 5) (d := 0) (v := .inl 121) rfl (fun _ => rfl) l5 rfl rfl ?_
    refine ex_go (S := (39, cl, [.inl 120, .inl 121], t0, n, 0)) rfl (fun _ => rfl) rfl ?_
    refine ex_go (S := (187, cl, [], t0, n, 0)) rfl (fun _ => rfl) rfl ?_
    refine ex_go (S := (188, cl, [.inl 4294967295], t0, n, 0)) rfl (fun _ => rfl) rfl ?_
    refine ex_ret (r := (some (.inl 4294967295), t0, n, 0)) rfl (fun _ => rfl) ?_
    rw [hv]
    exact hQ _ g0 e0
  | succ j ih =>
    intro k cl H t0 g hk g0 e0 hH hg hv l0 l4 l5
    have kh := hH g hg
    have hb := bv_le (b := H g)
    have kn := (e0 399 0 (by first | decide | omega)).trans k0
    have gg := fto_lt (WS_of hR) hg
    refine gx_ld (i := 5) (d := 0) (v := .inl k) rfl (fun _ => rfl) l5 rfl rfl ?_
    refine ex_go (S := (39, cl, [.inl 120, .inl k], t0, n, 0)) rfl (fun _ => rfl) rfl ?_
    refine gx_2f (c := .gt) rfl (by first | decide | omega) (by first | decide | omega) (show ¬ (120 < k) from by omega) rfl ?_
    refine gx_ld (i := 0) (d := 2) (v := gx_r 383) rfl (fun _ => rfl) l0 rfl rfl ?_
    refine gx_ref (c := 401) rfl g0 rfl rfl rfl rfl ?_
    refine gx_ld (i := 4) (d := 0) (v := .inl g) rfl (fun _ => rfl) l4 rfl rfl ?_
    refine gx_ag (v := .inl (bv (H g))) (cb := fun c => Nat.beq c 2 || Nat.beq c 1) rfl (fun _ => rfl) g0 rfl rfl kh (by first | decide | omega) rfl ?_
    cases hh : H g
    · show en_ex _ _ _ _ (49, cl, [.inl 0], t0, n, 0) _
      refine ex_go (S := (55, cl, [], t0, n, 0)) rfl (fun _ => rfl) rfl ?_
      refine gx_ld (i := 0) (d := 2) (v := gx_r 383) rfl (fun _ => rfl) l0 rfl rfl ?_
      refine gx_ld (i := 0) (d := 2) (v := gx_r 383) rfl (fun _ => rfl) l0 rfl rfl ?_
      refine gx_ref (c := 399) rfl g0 rfl rfl rfl rfl ?_
      refine ex_go (S := (61, cl, [.inl 0, gx_r 399, gx_r 383], t0, n, 0)) rfl (fun _ => rfl) rfl ?_
      refine gx_ag (v := .inl (σ 0)) (cb := fun c => Nat.beq c 0) rfl (fun _ => rfl) g0 rfl rfl kn (by first | decide | omega) rfl ?_
      refine gx_ld (i := 5) (d := 0) (v := .inl k) rfl (fun _ => rfl) l5 rfl rfl ?_
      refine ex_iadd rfl (by first | decide | omega) rfl ?_
      obtain ⟨_, r121, t121, rfl, g121, e121, h2⟩ := sr_hauls (d + 1) n (s := σ 0 + k) g0 (RW_keep hR (fun i hi => e0 389 i (by first | decide | omega)) (fun c i hc _ => e0 c i (by first | decide | omega))) (by first | decide | omega) hH
      have kh2 := h2 g hg
      have hb2 := bv_le (b := (hit w (σ 0 + k) (w 0 5) H) g)
      refine gx_call0 rfl rfl g0 rfl rfl r121 rfl ?_
      have k22 : ai_hv t121 399 0 = some (.inl (σ 0)) := (e121 399 0 (by first | decide | omega)).trans kn
      show en_ex _ _ _ _ (68, cl, [], t121, n, 0) _
      refine gx_ld (i := 0) (d := 2) (v := gx_r 383) rfl (fun _ => rfl) l0 rfl rfl ?_
      refine gx_ref (c := 401) rfl g121 rfl rfl rfl rfl ?_
      refine gx_ld (i := 4) (d := 0) (v := .inl g) rfl (fun _ => rfl) l4 rfl rfl ?_
      refine gx_ag (v := .inl (bv ((hit w (σ 0 + k) (w 0 5) H) g))) (cb := fun c => Nat.beq c 2 || Nat.beq c 1) rfl (fun _ => rfl) g121 rfl rfl kh2 (by first | decide | omega) rfl ?_
      cases ho : (hit w (σ 0 + k) (w 0 5) H) g
      · show en_ex _ _ _ _ (75, cl, [.inl 0], t121, n, 0) _
        rw [snw_f ho] at hv
        refine ex_go (S := (81, cl, [], t121, n, 0)) rfl (fun _ => rfl) rfl ?_
        refine ex_go (S := (82, cl, [.inl 0], t121, n, 0)) rfl (fun _ => rfl) rfl ?_
        refine gx_sto (i := 6) (d := 0) rfl (fun _ => rfl) rfl rfl (fun l23 hl23 ml23 => ?_)
        have l23_0 : en_ld l23 0 = some (gx_r 383) := ml23 0 _ l0 rfl
        have l23_4 : en_ld l23 4 = some (.inl g) := ml23 4 _ l4 rfl
        have l23_5 : en_ld l23 5 = some (.inl k) := ml23 5 _ l5 rfl
        refine ro_a d n (tb := t121) (g := g) (m := k) (fun cl124 t124 g124 e124 i124 l1240 l1244 l1245 => ?_) 64 0 _ _ rfl g121 (fun _ _ _ => rfl) (fun q hq => absurd hq (Nat.not_lt_zero q)) l23_0 l23_4 l23_5 hl23
        refine ex_go (S := (106, cl124, [.inl 0], t124, n, 0)) rfl (fun _ => rfl) rfl ?_
        refine gx_sto (i := 6) (d := 0) rfl (fun _ => rfl) rfl rfl (fun l25 hl25 ml25 => ?_)
        have l25_0 : en_ld l25 0 = some (gx_r 383) := ml25 0 _ l1240 rfl
        have l25_4 : en_ld l25 4 = some (.inl g) := ml25 4 _ l1244 rfl
        have l25_5 : en_ld l25 5 = some (.inl k) := ml25 5 _ l1245 rfl
        refine ro_b d n (tb := t124) (w := w) (L := L) (H := (hit w (σ 0 + k) (w 0 5) H)) (g := g) (m := k) (RW_keep hR (fun i hi => (e124 389 i (by first | decide | omega)).trans ((e121 389 i (by first | decide | omega)).trans (e0 389 i (by first | decide | omega)))) (fun c i hc _ => (e124 c i (by first | decide | omega)).trans ((e121 c i (by first | decide | omega)).trans (e0 c i (by first | decide | omega))))) (fun q hq => (e124 401 q (by first | decide | omega)).trans (h2 q hq)) (fun cl126 t126 g126 e126 i126 l1260 l1264 l1265 => ?_) 64 0 _ _ rfl g124 (fun _ _ _ => rfl) (fun q hq => i124 q hq) l25_0 l25_4 l25_5 hl25
        refine ex_go (S := (144, cl126, [.inl 0], t126, n, 0)) rfl (fun _ => rfl) rfl ?_
        refine gx_sto (i := 6) (d := 0) rfl (fun _ => rfl) rfl rfl (fun l27 hl27 ml27 => ?_)
        have l27_0 : en_ld l27 0 = some (gx_r 383) := ml27 0 _ l1260 rfl
        have l27_4 : en_ld l27 4 = some (.inl g) := ml27 4 _ l1264 rfl
        have l27_5 : en_ld l27 5 = some (.inl k) := ml27 5 _ l1265 rfl
        refine ro_c d n (tb := t126) (H := dft w (hit w (σ 0 + k) (w 0 5) H)) (g := g) (m := k) i126 (fun cl128 t128 g128 e128 i128 l1280 l1284 l1285 => ?_) 64 0 _ _ rfl g126 (fun _ _ _ => rfl) (fun q hq => absurd hq (Nat.not_lt_zero q)) l27_0 l27_4 l27_5 hl27
        refine gx_ld (i := 0) (d := 2) (v := gx_r 383) rfl (fun _ => rfl) l1280 rfl rfl ?_
        refine gx_ld (i := 4) (d := 0) (v := .inl g) rfl (fun _ => rfl) l1284 rfl rfl ?_
        obtain ⟨_, r29, rfl⟩ := sr_flowsTo (d + 1) n (p := g) g128 (RW_keep hR (fun i hi => (e128 389 i (by first | decide | omega)).trans ((e126 389 i (by first | decide | omega)).trans ((e124 389 i (by first | decide | omega)).trans ((e121 389 i (by first | decide | omega)).trans (e0 389 i (by first | decide | omega)))))) (fun c i hc _ => (e128 c i (by first | decide | omega)).trans ((e126 c i (by first | decide | omega)).trans ((e124 c i (by first | decide | omega)).trans ((e121 c i (by first | decide | omega)).trans (e0 c i (by first | decide | omega))))))) hg
        refine gx_call1 rfl rfl g128 rfl rfl r29 rfl ?_
        show en_ex _ _ _ _ (179, cl128, [.inl (fto w g)], t128, n, 0) _
        refine gx_sto (i := 4) (d := 0) rfl (fun _ => rfl) rfl rfl (fun l30 hl30 ml30 => ?_)
        have l30_0 : en_ld l30 0 = some (gx_r 383) := ml30 0 _ l1280 rfl
        have l30_5 : en_ld l30 5 = some (.inl k) := ml30 5 _ l1285 rfl
        refine gx_incS (i := 5) (a := k) (x := 1) rfl (fun _ => rfl) l30_5 (by first | decide | omega) rfl (fun l31 hl31 ml31 => ?_)
        have l31_0 : en_ld l31 0 = some (gx_r 383) := ml31 0 _ l30_0 rfl
        have l31_4 : en_ld l31 4 = some (.inl (fto w g)) := ml31 4 _ hl30 rfl
        refine ex_go (S := (35, l31, [], t128, n, 0)) rfl (fun _ => rfl) rfl ?_
        exact ih (k + 1) _ _ _ _ (by first | decide | omega) g128 (fun c i h => (e128 c i (by first | decide | omega)).trans ((e126 c i (by first | decide | omega)).trans ((e124 c i (by first | decide | omega)).trans ((e121 c i (by first | decide | omega)).trans (e0 c i (by first | decide | omega)))))) i128 gg hv l31_0 l31_4 hl31
      · show en_ex _ _ _ _ (75, cl, [.inl 1], t121, n, 0) _
        rw [snw_t ho] at hv
        refine ex_go (S := (78, cl, [], t121, n, 0)) rfl (fun _ => rfl) rfl ?_
        refine gx_ld (i := 5) (d := 0) (v := .inl k) rfl (fun _ => rfl) l5 rfl rfl ?_
        refine ex_ret (r := (some (.inl k), t121, n, 0)) rfl (fun _ => rfl) ?_
        rw [hv]
        exact hQ _ g121 (fun c i h => (e121 c i (by first | decide | omega)).trans (e0 c i (by first | decide | omega)))
    · show en_ex _ _ _ _ (49, cl, [.inl 1], t0, n, 0) _
      refine ex_go (S := (52, cl, [], t0, n, 0)) rfl (fun _ => rfl) rfl ?_
      refine gx_ld (i := 5) (d := 0) (v := .inl k) rfl (fun _ => rfl) l5 rfl rfl ?_
      refine ex_ret (r := (some (.inl k), t0, n, 0)) rfl (fun _ => rfl) ?_
      rw [snw_t (hit_up hh _)] at hv
      rw [hv]
      exact hQ _ g0 e0
theorem sr_reachOf (d n : Nat) {t0 : en_H} {w : Nat → Nat → Nat} {L : List Nat} {σ : Nat → Nat} {a b s : Nat} (g0 : ai_HG ah_G t0) (hR : RW t0 w L) (hS : blk t0 0 σ) (hB : σ 0 ≤ 900000) (hz : ∀ i, i < w 0 2 → σ (1 + i) < 64) (ha : a < w 0 2) (hb : b < w 0 2) (hs : s ≤ 60) : ∃ r, en_u (d + 5) 133 [gx_r 383, .inl a, .inl b, .inl s] t0 n = some r ∧ ∃ t', r = (some (.inl (snR w σ a b (121 - s) s)), t', n, 0) ∧ ai_HG ah_G t' ∧ (∀ c i, ¬ (c = 401 ∨ c = 402) → ai_hv t' c i = ai_hv t0 c i) := by
  have hT := hR.2.1.2.2.1
  have za := hz a ha
  have zb := hz b hb
  have ja := jmp_lt (F := w 1) hR.2.1.1 hR.2.1.2.1 za s
  have jb := jmp_lt (F := w 1) hR.2.1.1 hR.2.1.2.1 zb s
  refine en_u_ex (d := d + 4) rfl ?_
  show en_ex _ _ _ _ (0, [(0, gx_r 383), (1, .inl a), (2, .inl b), (3, .inl s)], [], t0, n, 0) _
  refine ex_go (S := (1, [(0, gx_r 383), (1, .inl a), (2, .inl b), (3, .inl s)], [gx_r 383], t0, n, 0)) rfl (fun _ => rfl) rfl ?_
  refine ex_go (S := (2, [(0, gx_r 383), (1, .inl a), (2, .inl b), (3, .inl s)], [gx_r 383, gx_r 383], t0, n, 0)) rfl (fun _ => rfl) rfl ?_
  refine ex_go (S := (3, [(0, gx_r 383), (1, .inl a), (2, .inl b), (3, .inl s)], [gx_r 383, gx_r 383, gx_r 383], t0, n, 0)) rfl (fun _ => rfl) rfl ?_
  refine gx_ref (c := 399) rfl g0 rfl rfl rfl rfl ?_
  refine ex_go (S := (7, [(0, gx_r 383), (1, .inl a), (2, .inl b), (3, .inl s)], [.inl 1, gx_r 399, gx_r 383, gx_r 383], t0, n, 0)) rfl (fun _ => rfl) rfl ?_
  refine ex_go (S := (8, [(0, gx_r 383), (1, .inl a), (2, .inl b), (3, .inl s)], [.inl a, .inl 1, gx_r 399, gx_r 383, gx_r 383], t0, n, 0)) rfl (fun _ => rfl) rfl ?_
  refine ex_iadd rfl (by first | decide | omega) rfl ?_
  have k21 : ai_hv t0 399 (1 + a) = some (.inl (σ (1 + a))) := by
    have h9 := hS (1 + a) (by first | decide | omega)
    rw [Nat.zero_add] at h9
    exact h9
  refine gx_ag (v := .inl (σ (1 + a))) (cb := fun c => Nat.beq c 0) rfl (fun _ => rfl) g0 rfl rfl k21 (by first | decide | omega) rfl ?_
  refine ex_go (S := (11, [(0, gx_r 383), (1, .inl a), (2, .inl b), (3, .inl s)], [.inl s, .inl (σ (1 + a)), gx_r 383, gx_r 383], t0, n, 0)) rfl (fun _ => rfl) rfl ?_
  obtain ⟨_, r22, rfl⟩ := sr_placeBehind d n (p := σ (1 + a)) (s := s) g0 (RW_keep hR (fun i hi => rfl) (fun c i hc _ => rfl)) (by first | decide | omega) (by first | decide | omega)
  refine gx_call1 rfl rfl g0 rfl rfl r22 rfl ?_
  show en_ex _ _ _ _ (14, [(0, gx_r 383), (1, .inl a), (2, .inl b), (3, .inl s)], [.inl (jmp (w 0 0) (w 0 1) (w 1) s (σ (1 + a))), gx_r 383], t0, n, 0) _
  obtain ⟨_, r123, t123, rfl, g123, e123, h123⟩ := sr_clearsHere (d + 3) n g0 ja
  refine gx_call0 rfl rfl g0 rfl rfl r123 rfl ?_
  have k24 : ai_hv t123 399 (1 + a) = some (.inl (σ (1 + a))) := (e123 399 (1 + a) (by first | decide | omega)).trans k21
  show en_ex _ _ _ _ (17, [(0, gx_r 383), (1, .inl a), (2, .inl b), (3, .inl s)], [], t123, n, 0) _
  refine ex_go (S := (18, [(0, gx_r 383), (1, .inl a), (2, .inl b), (3, .inl s)], [gx_r 383], t123, n, 0)) rfl (fun _ => rfl) rfl ?_
  refine ex_go (S := (19, [(0, gx_r 383), (1, .inl a), (2, .inl b), (3, .inl s)], [gx_r 383, gx_r 383], t123, n, 0)) rfl (fun _ => rfl) rfl ?_
  refine gx_ref (c := 399) rfl g123 rfl rfl rfl rfl ?_
  refine ex_go (S := (23, [(0, gx_r 383), (1, .inl a), (2, .inl b), (3, .inl s)], [.inl 1, gx_r 399, gx_r 383], t123, n, 0)) rfl (fun _ => rfl) rfl ?_
  refine ex_go (S := (24, [(0, gx_r 383), (1, .inl a), (2, .inl b), (3, .inl s)], [.inl b, .inl 1, gx_r 399, gx_r 383], t123, n, 0)) rfl (fun _ => rfl) rfl ?_
  refine ex_iadd rfl (by first | decide | omega) rfl ?_
  have k25 : ai_hv t123 399 (1 + b) = some (.inl (σ (1 + b))) := by
    have h9 := hS (1 + b) (by first | decide | omega)
    rw [Nat.zero_add] at h9
    exact (e123 399 (1 + b) (by first | decide | omega)).trans (h9)
  refine gx_ag (v := .inl (σ (1 + b))) (cb := fun c => Nat.beq c 0) rfl (fun _ => rfl) g123 rfl rfl k25 (by first | decide | omega) rfl ?_
  refine ex_go (S := (27, [(0, gx_r 383), (1, .inl a), (2, .inl b), (3, .inl s)], [.inl s, .inl (σ (1 + b)), gx_r 383], t123, n, 0)) rfl (fun _ => rfl) rfl ?_
  obtain ⟨_, r26, rfl⟩ := sr_placeBehind d n (p := σ (1 + b)) (s := s) g123 (RW_keep hR (fun i hi => e123 389 i (by first | decide | omega)) (fun c i hc _ => e123 c i (by first | decide | omega))) (by first | decide | omega) (by first | decide | omega)
  refine gx_call1 rfl rfl g123 rfl rfl r26 rfl ?_
  show en_ex _ _ _ _ (30, [(0, gx_r 383), (1, .inl a), (2, .inl b), (3, .inl s)], [.inl (jmp (w 0 0) (w 0 1) (w 1) s (σ (1 + b)))], t123, n, 0) _
  refine ex_go (S := (32, [(4, .inl (jmp (w 0 0) (w 0 1) (w 1) s (σ (1 + b)))), (0, gx_r 383), (1, .inl a), (2, .inl b), (3, .inl s)], [], t123, n, 0)) rfl (fun _ => rfl) rfl ?_
  refine ex_go (S := (33, [(4, .inl (jmp (w 0 0) (w 0 1) (w 1) s (σ (1 + b)))), (0, gx_r 383), (1, .inl a), (2, .inl b), (3, .inl s)], [.inl s], t123, n, 0)) rfl (fun _ => rfl) rfl ?_
  refine ex_go (S := (35, [(5, .inl s), (4, .inl (jmp (w 0 0) (w 0 1) (w 1) s (σ (1 + b)))), (0, gx_r 383), (1, .inl a), (2, .inl b), (3, .inl s)], [], t123, n, 0)) rfl (fun _ => rfl) rfl ?_
  exact ro_l d n (tb := t0) (σ := σ) hR (show ai_hv t0 399 0 = _ from hS 0 (by decide)) hB (v0 := snR w σ a b (121 - s) s) (fun t1 g1 e1 => ⟨_, rfl, _, rfl, g1, e1⟩) (121 - s) s _ _ _ _ (by first | decide | omega) g123 (fun c i h => e123 c i (by first | decide | omega)) h123 jb rfl rfl rfl rfl
theorem sc_reach191 (d n : Nat) {t0 : en_H} {w : Nat → Nat → Nat} {L : List Nat} {σ : Nat → Nat} {x y z : Nat} (g0 : ai_HG ah_G t0) (hC : CW t0 191 w L) (hw : WS w) (hX : CX t0 191 w) (k10 : ai_hv t0 0 10 = some (gx_r 191)) (hF : ∀ q, q < 64 → w 1 q ≤ 4) (hS : SC t0 8 (w 0 2) (w 0 4) σ) (hB : σ 0 ≤ 900000) (hz9 : ∀ i, i < w 0 2 → σ (1 + i) < 64 ∧ inG (w 0 0) (w 0 1) (σ (1 + i)) = true) (hx : x < 4294967296) (hy : y < 4294967296) (hz : z < 4294967296) : ∃ r, en_u (d + 5) 58 [gx_r 0, .inl x, .inl y, .inl z] t0 n = some r ∧ ∃ v, r = (some (.inl v), t0, n, 0) ∧ ((x < w 0 2 ∧ y < w 0 2 ∧ (¬ x = y) ∧ z ≤ 60) → v = snR w σ x y (121 - z) z) ∧ (¬ (x < w 0 2 ∧ y < w 0 2 ∧ (¬ x = y) ∧ z ≤ 60) → v = 4294967295) := by
  have hT := hw.1.2.2.1
  refine en_u_ex (d := d + 4) rfl ?_
  show en_ex _ _ _ _ (0, [(0, gx_r 0), (1, .inl x), (2, .inl y), (3, .inl z)], [], t0, n, 0) _
  refine ex_go (S := (1, [(0, gx_r 0), (1, .inl x), (2, .inl y), (3, .inl z)], [gx_r 0], t0, n, 0)) rfl (fun _ => rfl) rfl ?_
  refine ex_go (S := (2, [(0, gx_r 0), (1, .inl x), (2, .inl y), (3, .inl z)], [.inl x, gx_r 0], t0, n, 0)) rfl (fun _ => rfl) rfl ?_
  refine ex_go (S := (3, [(0, gx_r 0), (1, .inl x), (2, .inl y), (3, .inl z)], [.inl y, .inl x, gx_r 0], t0, n, 0)) rfl (fun _ => rfl) rfl ?_
  obtain ⟨_, r121, b121, rfl, hb121, hi121⟩ := sc_two191 (d + 2) n (x := x) (y := y) g0 hC hw k10 hx hy
  refine gx_callo (a := 0) rfl rfl g0 rfl rfl rfl r121 rfl ?_
  show en_ex _ _ _ _ (6, [(0, gx_r 0), (1, .inl x), (2, .inl y), (3, .inl z)], [.inl b121], t0, n, 0) _
  by_cases hc22 : b121 = 0
  · refine gx_1t (c := .eq) rfl (by first | decide | omega) hc22 rfl ?_
    refine ex_go (S := (20, [(0, gx_r 0), (1, .inl x), (2, .inl y), (3, .inl z)], [.inl 4294967295], t0, n, 0)) rfl (fun _ => rfl) rfl ?_
    refine ex_ret (r := (some (.inl 4294967295), t0, n, 0)) rfl (fun _ => rfl) ?_
    exact ⟨_, rfl, _, rfl, (fun c9 => absurd (hi121.mpr ⟨c9.1, c9.2.1, c9.2.2.1⟩) (by first | decide | omega)), (fun _ => rfl)⟩
  · refine gx_1f (c := .eq) rfl (by first | decide | omega) hc22 rfl ?_
    refine ex_go (S := (10, [(0, gx_r 0), (1, .inl x), (2, .inl y), (3, .inl z)], [.inl z], t0, n, 0)) rfl (fun _ => rfl) rfl ?_
    refine ex_go (S := (11, [(0, gx_r 0), (1, .inl x), (2, .inl y), (3, .inl z)], [.inl 0, .inl z], t0, n, 0)) rfl (fun _ => rfl) rfl ?_
    refine ex_go (S := (13, [(0, gx_r 0), (1, .inl x), (2, .inl y), (3, .inl z)], [.inl 60, .inl 0, .inl z], t0, n, 0)) rfl (fun _ => rfl) rfl ?_
    obtain ⟨_, r23, b24, rfl, b24b, q25⟩ := pz_isWithin (d + 3) n (t0 := t0) (x := z) (lo := 0) (hi := 60) (by first | decide | omega) (by first | decide | omega) (by first | decide | omega)
    refine ex_stat rfl rfl rfl rfl rfl r23 (Nat.le_refl _) rfl ?_
    show en_ex _ _ _ _ (16, [(0, gx_r 0), (1, .inl x), (2, .inl y), (3, .inl z)], [.inl b24], t0, n, 0) _
    by_cases hc26 : b24 ≠ 0
    · refine gx_1t (c := .ne) rfl (by first | decide | omega) hc26 rfl ?_
      refine ex_go (S := (22, [(0, gx_r 0), (1, .inl x), (2, .inl y), (3, .inl z)], [gx_r 0], t0, n, 0)) rfl (fun _ => rfl) rfl ?_
      refine ex_go (S := (23, [(0, gx_r 0), (1, .inl x), (2, .inl y), (3, .inl z)], [.inl x, gx_r 0], t0, n, 0)) rfl (fun _ => rfl) rfl ?_
      refine ex_go (S := (24, [(0, gx_r 0), (1, .inl x), (2, .inl y), (3, .inl z)], [.inl y, .inl x, gx_r 0], t0, n, 0)) rfl (fun _ => rfl) rfl ?_
      refine ex_go (S := (25, [(0, gx_r 0), (1, .inl x), (2, .inl y), (3, .inl z)], [.inl z, .inl y, .inl x, gx_r 0], t0, n, 0)) rfl (fun _ => rfl) rfl ?_
      refine ex_go (S := (27, [(0, gx_r 0), (1, .inl x), (2, .inl y), (3, .inl z)], [.inl 120, .inl z, .inl y, .inl x, gx_r 0], t0, n, 0)) rfl (fun _ => rfl) rfl ?_
      obtain ⟨h31, h32, h33⟩ := hi121.mp (by first | decide | omega)
      obtain ⟨_, r27, rfl⟩ := sc_soon191 d n (a := x) (b := y) (s := z) (lt := 120) g0 hC hw hX k10 hF hS hB hz9 h31 h32 (by first | decide | omega) (by decide)
      refine gx_callo (a := 0) rfl rfl g0 rfl rfl rfl r27 rfl ?_
      show en_ex _ _ _ _ (30, [(0, gx_r 0), (1, .inl x), (2, .inl y), (3, .inl z)], [.inl (snR w σ x y (120 + 1 - z) z)], t0, n, 0) _
      refine ex_ret (r := (some (.inl (snR w σ x y (120 + 1 - z) z)), t0, n, 0)) rfl (fun _ => rfl) ?_
      exact ⟨_, rfl, _, rfl, (fun _ => rfl), (fun c9 => absurd ⟨h31, h32, h33, by omega⟩ c9)⟩
    · refine gx_1f (c := .ne) rfl (by first | decide | omega) hc26 rfl ?_
      refine ex_go (S := (20, [(0, gx_r 0), (1, .inl x), (2, .inl y), (3, .inl z)], [.inl 4294967295], t0, n, 0)) rfl (fun _ => rfl) rfl ?_
      refine ex_ret (r := (some (.inl 4294967295), t0, n, 0)) rfl (fun _ => rfl) ?_
      exact ⟨_, rfl, _, rfl, (fun c9 => by omega), (fun _ => rfl)⟩
theorem sc_reach257 (d n : Nat) {t0 : en_H} {w : Nat → Nat → Nat} {L : List Nat} {σ : Nat → Nat} {x y z : Nat} (g0 : ai_HG ah_G t0) (hC : CW t0 257 w L) (hw : WS w) (hX : CX t0 257 w) (k10 : ai_hv t0 0 10 = some (gx_r 257)) (hF : ∀ q, q < 64 → w 1 q ≤ 4) (hS : SC t0 8 (w 0 2) (w 0 4) σ) (hB : σ 0 ≤ 900000) (hz9 : ∀ i, i < w 0 2 → σ (1 + i) < 64 ∧ inG (w 0 0) (w 0 1) (σ (1 + i)) = true) (hx : x < 4294967296) (hy : y < 4294967296) (hz : z < 4294967296) : ∃ r, en_u (d + 5) 58 [gx_r 0, .inl x, .inl y, .inl z] t0 n = some r ∧ ∃ v, r = (some (.inl v), t0, n, 0) ∧ ((x < w 0 2 ∧ y < w 0 2 ∧ (¬ x = y) ∧ z ≤ 60) → v = snR w σ x y (121 - z) z) ∧ (¬ (x < w 0 2 ∧ y < w 0 2 ∧ (¬ x = y) ∧ z ≤ 60) → v = 4294967295) := by
  have hT := hw.1.2.2.1
  refine en_u_ex (d := d + 4) rfl ?_
  show en_ex _ _ _ _ (0, [(0, gx_r 0), (1, .inl x), (2, .inl y), (3, .inl z)], [], t0, n, 0) _
  refine ex_go (S := (1, [(0, gx_r 0), (1, .inl x), (2, .inl y), (3, .inl z)], [gx_r 0], t0, n, 0)) rfl (fun _ => rfl) rfl ?_
  refine ex_go (S := (2, [(0, gx_r 0), (1, .inl x), (2, .inl y), (3, .inl z)], [.inl x, gx_r 0], t0, n, 0)) rfl (fun _ => rfl) rfl ?_
  refine ex_go (S := (3, [(0, gx_r 0), (1, .inl x), (2, .inl y), (3, .inl z)], [.inl y, .inl x, gx_r 0], t0, n, 0)) rfl (fun _ => rfl) rfl ?_
  obtain ⟨_, r121, b121, rfl, hb121, hi121⟩ := sc_two257 (d + 2) n (x := x) (y := y) g0 hC hw k10 hx hy
  refine gx_callo (a := 0) rfl rfl g0 rfl rfl rfl r121 rfl ?_
  show en_ex _ _ _ _ (6, [(0, gx_r 0), (1, .inl x), (2, .inl y), (3, .inl z)], [.inl b121], t0, n, 0) _
  by_cases hc22 : b121 = 0
  · refine gx_1t (c := .eq) rfl (by first | decide | omega) hc22 rfl ?_
    refine ex_go (S := (20, [(0, gx_r 0), (1, .inl x), (2, .inl y), (3, .inl z)], [.inl 4294967295], t0, n, 0)) rfl (fun _ => rfl) rfl ?_
    refine ex_ret (r := (some (.inl 4294967295), t0, n, 0)) rfl (fun _ => rfl) ?_
    exact ⟨_, rfl, _, rfl, (fun c9 => absurd (hi121.mpr ⟨c9.1, c9.2.1, c9.2.2.1⟩) (by first | decide | omega)), (fun _ => rfl)⟩
  · refine gx_1f (c := .eq) rfl (by first | decide | omega) hc22 rfl ?_
    refine ex_go (S := (10, [(0, gx_r 0), (1, .inl x), (2, .inl y), (3, .inl z)], [.inl z], t0, n, 0)) rfl (fun _ => rfl) rfl ?_
    refine ex_go (S := (11, [(0, gx_r 0), (1, .inl x), (2, .inl y), (3, .inl z)], [.inl 0, .inl z], t0, n, 0)) rfl (fun _ => rfl) rfl ?_
    refine ex_go (S := (13, [(0, gx_r 0), (1, .inl x), (2, .inl y), (3, .inl z)], [.inl 60, .inl 0, .inl z], t0, n, 0)) rfl (fun _ => rfl) rfl ?_
    obtain ⟨_, r23, b24, rfl, b24b, q25⟩ := pz_isWithin (d + 3) n (t0 := t0) (x := z) (lo := 0) (hi := 60) (by first | decide | omega) (by first | decide | omega) (by first | decide | omega)
    refine ex_stat rfl rfl rfl rfl rfl r23 (Nat.le_refl _) rfl ?_
    show en_ex _ _ _ _ (16, [(0, gx_r 0), (1, .inl x), (2, .inl y), (3, .inl z)], [.inl b24], t0, n, 0) _
    by_cases hc26 : b24 ≠ 0
    · refine gx_1t (c := .ne) rfl (by first | decide | omega) hc26 rfl ?_
      refine ex_go (S := (22, [(0, gx_r 0), (1, .inl x), (2, .inl y), (3, .inl z)], [gx_r 0], t0, n, 0)) rfl (fun _ => rfl) rfl ?_
      refine ex_go (S := (23, [(0, gx_r 0), (1, .inl x), (2, .inl y), (3, .inl z)], [.inl x, gx_r 0], t0, n, 0)) rfl (fun _ => rfl) rfl ?_
      refine ex_go (S := (24, [(0, gx_r 0), (1, .inl x), (2, .inl y), (3, .inl z)], [.inl y, .inl x, gx_r 0], t0, n, 0)) rfl (fun _ => rfl) rfl ?_
      refine ex_go (S := (25, [(0, gx_r 0), (1, .inl x), (2, .inl y), (3, .inl z)], [.inl z, .inl y, .inl x, gx_r 0], t0, n, 0)) rfl (fun _ => rfl) rfl ?_
      refine ex_go (S := (27, [(0, gx_r 0), (1, .inl x), (2, .inl y), (3, .inl z)], [.inl 120, .inl z, .inl y, .inl x, gx_r 0], t0, n, 0)) rfl (fun _ => rfl) rfl ?_
      obtain ⟨h31, h32, h33⟩ := hi121.mp (by first | decide | omega)
      obtain ⟨_, r27, rfl⟩ := sc_soon257 d n (a := x) (b := y) (s := z) (lt := 120) g0 hC hw hX k10 hF hS hB hz9 h31 h32 (by first | decide | omega) (by decide)
      refine gx_callo (a := 0) rfl rfl g0 rfl rfl rfl r27 rfl ?_
      show en_ex _ _ _ _ (30, [(0, gx_r 0), (1, .inl x), (2, .inl y), (3, .inl z)], [.inl (snR w σ x y (120 + 1 - z) z)], t0, n, 0) _
      refine ex_ret (r := (some (.inl (snR w σ x y (120 + 1 - z) z)), t0, n, 0)) rfl (fun _ => rfl) ?_
      exact ⟨_, rfl, _, rfl, (fun _ => rfl), (fun c9 => absurd ⟨h31, h32, h33, by omega⟩ c9)⟩
    · refine gx_1f (c := .ne) rfl (by first | decide | omega) hc26 rfl ?_
      refine ex_go (S := (20, [(0, gx_r 0), (1, .inl x), (2, .inl y), (3, .inl z)], [.inl 4294967295], t0, n, 0)) rfl (fun _ => rfl) rfl ?_
      refine ex_ret (r := (some (.inl 4294967295), t0, n, 0)) rfl (fun _ => rfl) ?_
      exact ⟨_, rfl, _, rfl, (fun c9 => by omega), (fun _ => rfl)⟩
theorem sr_reach (d n : Nat) {t0 : en_H} {w : Nat → Nat → Nat} {L : List Nat} {σ : Nat → Nat} {x y z : Nat} (g0 : ai_HG ah_G t0) (hR : RW t0 w L) (hS : blk t0 0 σ) (hB : σ 0 ≤ 900000) (hz9 : ∀ i, i < w 0 2 → σ (1 + i) < 64) (hx : x < 4294967296) (hy : y < 4294967296) (hz : z < 4294967296) : ∃ r, en_u (d + 6) 59 [gx_r 383, .inl x, .inl y, .inl z] t0 n = some r ∧ ∃ v t', r = (some (.inl v), t', n, 0) ∧ ((x < w 0 2 ∧ y < w 0 2 ∧ (¬ x = y) ∧ z ≤ 60) → v = snR w σ x y (121 - z) z) ∧ (¬ (x < w 0 2 ∧ y < w 0 2 ∧ (¬ x = y) ∧ z ≤ 60) → v = 4294967295) := by
  have hT := hR.2.1.2.2.1
  refine en_u_ex (d := d + 5) rfl ?_
  show en_ex _ _ _ _ (0, [(0, gx_r 383), (1, .inl x), (2, .inl y), (3, .inl z)], [], t0, n, 0) _
  refine ex_go (S := (1, [(0, gx_r 383), (1, .inl x), (2, .inl y), (3, .inl z)], [gx_r 383], t0, n, 0)) rfl (fun _ => rfl) rfl ?_
  refine ex_go (S := (2, [(0, gx_r 383), (1, .inl x), (2, .inl y), (3, .inl z)], [.inl 0, gx_r 383], t0, n, 0)) rfl (fun _ => rfl) rfl ?_
  refine gx_put rfl g0 rfl rfl (ai_in_h (by first | decide | omega) (by first | decide | omega) (by first | decide | omega)) rfl (fun t121 g121 k121 e121 => ?_)
  refine ex_go (S := (6, [(0, gx_r 383), (1, .inl x), (2, .inl y), (3, .inl z)], [gx_r 383], t121, n, 0)) rfl (fun _ => rfl) rfl ?_
  refine ex_go (S := (7, [(0, gx_r 383), (1, .inl x), (2, .inl y), (3, .inl z)], [.inl x, gx_r 383], t121, n, 0)) rfl (fun _ => rfl) rfl ?_
  obtain ⟨_, r122, b122, rfl, hb122, hi122⟩ := sr_isThing (d + 3) n (c := x) (K := w 0 2) g121 (by first | decide | omega) ((e121 389 2 (by first | decide | omega)).trans ((hR.1 2 (by first | decide | omega)))) (by first | decide | omega)
  refine gx_call1 rfl rfl g121 rfl rfl r122 rfl ?_
  show en_ex _ _ _ _ (10, [(0, gx_r 383), (1, .inl x), (2, .inl y), (3, .inl z)], [.inl b122], t121, n, 0) _
  by_cases hc23 : b122 = 0
  · refine gx_1t (c := .eq) rfl (by first | decide | omega) hc23 rfl ?_
    refine ex_go (S := (47, [(0, gx_r 383), (1, .inl x), (2, .inl y), (3, .inl z)], [.inl 4294967295], t121, n, 0)) rfl (fun _ => rfl) rfl ?_
    refine ex_ret (r := (some (.inl 4294967295), t121, n, 0)) rfl (fun _ => rfl) ?_
    exact ⟨_, rfl, _, _, rfl, (fun c9 => by omega), (fun _ => rfl)⟩
  · refine gx_1f (c := .eq) rfl (by first | decide | omega) hc23 rfl ?_
    refine ex_go (S := (14, [(0, gx_r 383), (1, .inl x), (2, .inl y), (3, .inl z)], [gx_r 383], t121, n, 0)) rfl (fun _ => rfl) rfl ?_
    refine ex_go (S := (15, [(0, gx_r 383), (1, .inl x), (2, .inl y), (3, .inl z)], [.inl y, gx_r 383], t121, n, 0)) rfl (fun _ => rfl) rfl ?_
    obtain ⟨_, r124, b124, rfl, hb124, hi124⟩ := sr_isThing (d + 3) n (c := y) (K := w 0 2) g121 (by first | decide | omega) ((e121 389 2 (by first | decide | omega)).trans ((hR.1 2 (by first | decide | omega)))) (by first | decide | omega)
    refine gx_call1 rfl rfl g121 rfl rfl r124 rfl ?_
    show en_ex _ _ _ _ (18, [(0, gx_r 383), (1, .inl x), (2, .inl y), (3, .inl z)], [.inl b124], t121, n, 0) _
    by_cases hc25 : b124 = 0
    · refine gx_1t (c := .eq) rfl (by first | decide | omega) hc25 rfl ?_
      refine ex_go (S := (47, [(0, gx_r 383), (1, .inl x), (2, .inl y), (3, .inl z)], [.inl 4294967295], t121, n, 0)) rfl (fun _ => rfl) rfl ?_
      refine ex_ret (r := (some (.inl 4294967295), t121, n, 0)) rfl (fun _ => rfl) ?_
      exact ⟨_, rfl, _, _, rfl, (fun c9 => by omega), (fun _ => rfl)⟩
    · refine gx_1f (c := .eq) rfl (by first | decide | omega) hc25 rfl ?_
      refine ex_go (S := (22, [(0, gx_r 383), (1, .inl x), (2, .inl y), (3, .inl z)], [.inl x], t121, n, 0)) rfl (fun _ => rfl) rfl ?_
      refine ex_go (S := (23, [(0, gx_r 383), (1, .inl x), (2, .inl y), (3, .inl z)], [.inl y, .inl x], t121, n, 0)) rfl (fun _ => rfl) rfl ?_
      by_cases hc26 : x = y
      · refine gx_2t (c := .eq) rfl (by first | decide | omega) (by first | decide | omega) hc26 rfl ?_
        refine ex_go (S := (47, [(0, gx_r 383), (1, .inl x), (2, .inl y), (3, .inl z)], [.inl 4294967295], t121, n, 0)) rfl (fun _ => rfl) rfl ?_
        refine ex_ret (r := (some (.inl 4294967295), t121, n, 0)) rfl (fun _ => rfl) ?_
        exact ⟨_, rfl, _, _, rfl, (fun c9 => by omega), (fun _ => rfl)⟩
      · refine gx_2f (c := .eq) rfl (by first | decide | omega) (by first | decide | omega) hc26 rfl ?_
        refine ex_go (S := (27, [(0, gx_r 383), (1, .inl x), (2, .inl y), (3, .inl z)], [.inl z], t121, n, 0)) rfl (fun _ => rfl) rfl ?_
        refine ex_go (S := (28, [(0, gx_r 383), (1, .inl x), (2, .inl y), (3, .inl z)], [.inl 0, .inl z], t121, n, 0)) rfl (fun _ => rfl) rfl ?_
        refine ex_go (S := (30, [(0, gx_r 383), (1, .inl x), (2, .inl y), (3, .inl z)], [.inl 60, .inl 0, .inl z], t121, n, 0)) rfl (fun _ => rfl) rfl ?_
        obtain ⟨_, r27, b28, rfl, b28b, q29⟩ := pz_within (d + 4) n (t0 := t121) (x := z) (lo := 0) (hi := 60) (by first | decide | omega) (by first | decide | omega) (by first | decide | omega)
        refine ex_stat rfl rfl rfl rfl rfl r27 (Nat.le_refl _) rfl ?_
        show en_ex _ _ _ _ (33, [(0, gx_r 383), (1, .inl x), (2, .inl y), (3, .inl z)], [.inl b28], t121, n, 0) _
        by_cases hc30 : b28 = 0
        · refine gx_1t (c := .eq) rfl (by first | decide | omega) hc30 rfl ?_
          refine ex_go (S := (47, [(0, gx_r 383), (1, .inl x), (2, .inl y), (3, .inl z)], [.inl 4294967295], t121, n, 0)) rfl (fun _ => rfl) rfl ?_
          refine ex_ret (r := (some (.inl 4294967295), t121, n, 0)) rfl (fun _ => rfl) ?_
          exact ⟨_, rfl, _, _, rfl, (fun c9 => by omega), (fun _ => rfl)⟩
        · refine gx_1f (c := .eq) rfl (by first | decide | omega) hc30 rfl ?_
          refine ex_go (S := (37, [(0, gx_r 383), (1, .inl x), (2, .inl y), (3, .inl z)], [gx_r 383], t121, n, 0)) rfl (fun _ => rfl) rfl ?_
          refine ex_go (S := (38, [(0, gx_r 383), (1, .inl x), (2, .inl y), (3, .inl z)], [.inl x, gx_r 383], t121, n, 0)) rfl (fun _ => rfl) rfl ?_
          refine ex_go (S := (39, [(0, gx_r 383), (1, .inl x), (2, .inl y), (3, .inl z)], [.inl y, .inl x, gx_r 383], t121, n, 0)) rfl (fun _ => rfl) rfl ?_
          refine ex_go (S := (40, [(0, gx_r 383), (1, .inl x), (2, .inl y), (3, .inl z)], [.inl z, .inl y, .inl x, gx_r 383], t121, n, 0)) rfl (fun _ => rfl) rfl ?_
          obtain ⟨_, r131, t131, rfl, g131, e131⟩ := sr_reachOf d n (σ := σ) (a := x) (b := y) (s := z) g121 (RW_keep hR (fun i hi => e121 389 i (by first | decide | omega)) (fun c i hc _ => e121 c i (by first | decide | omega))) (blk_keep hS (fun j hj => e121 399 _ (by first | decide | omega))) hB hz9 (by first | decide | omega) (by first | decide | omega) (by first | decide | omega)
          refine gx_call1 rfl rfl g121 rfl rfl r131 rfl ?_
          have k32 : ai_hv t131 383 0 = some (.inl 0) := (e131 383 0 (by first | decide | omega)).trans k121
          show en_ex _ _ _ _ (43, [(0, gx_r 383), (1, .inl x), (2, .inl y), (3, .inl z)], [.inl (snR w σ x y (121 - z) z)], t131, n, 0) _
          refine ex_go (S := (47, [(0, gx_r 383), (1, .inl x), (2, .inl y), (3, .inl z)], [.inl (snR w σ x y (121 - z) z)], t131, n, 0)) rfl (fun _ => rfl) rfl ?_
          refine ex_ret (r := (some (.inl (snR w σ x y (121 - z) z)), t131, n, 0)) rfl (fun _ => rfl) ?_
          exact ⟨_, rfl, _, _, rfl, (fun _ => rfl), (fun c9 => absurd ⟨by omega, by omega, by omega, by omega⟩ c9)⟩
theorem zs_reach191 {n B x y z : Nat} {t : en_H} (g0 : ai_HG ah_G t) (hP : SPXk 191 t) (hZ : ZS B t) (hB : B ≤ 900000) (hx : x < 4294967296) (hy : y < 4294967296) (hz : z < 4294967296) : zs_A 58 59 [gx_r 0, .inl x, .inl y, .inl z] [gx_r 383, .inl x, .inl y, .inl z] t n := by
  obtain ⟨k10, w, L, hR, hC, hX, -, -⟩ := hP
  obtain ⟨T, K, σ, u, τ, F, μ, q, v, ⟨hT, hK⟩, hS, hS', hB5, -, -, -, O, D, ⟨hO, hD⟩, hG⟩ := hZ
  have eT := wv_one hT (hR.1 2 (by decide))
  have eK := wv_one hK (hR.1 4 (by decide))
  have eO := wv_one hO (hR.1 0 (by decide))
  have eD := wv_one hD (hR.1 1 (by decide))
  subst eT eK eO eD
  have hw := WS_of hR
  have hT6 := hw.1.2.2.1
  have hσ := hB5.2.1
  have hb := zs_sbd g0 hS.1
  have hz9 : ∀ i, i < w 0 2 → σ (1 + i) < 64 ∧ inG (w 0 0) (w 0 1) (σ (1 + i)) = true := fun i hi => ⟨Nat.lt_succ_of_le (hb.1 i (by first | decide | omega)), hG.1 i hi⟩
  obtain ⟨_, r1, z1, rfl, a1, a2⟩ := sc_reach191 55 n g0 hC hw hX k10 (fun q hq => (hR.2.2.1 q hq).2) hS'.1 (by first | decide | omega) hz9 hx hy hz
  obtain ⟨_, r2, z2, t2, rfl, b1, b2⟩ := sr_reach 54 n g0 hR hS.1 (by first | decide | omega) (fun i hi => (hz9 i hi).1) hx hy hz
  have e : z2 = z1 := by
    by_cases c : x < w 0 2 ∧ y < w 0 2 ∧ (¬ x = y) ∧ z ≤ 60
    · rw [a1 c, b1 c]
    · rw [a2 c, b2 c]
  subst e
  exact ⟨_, _, _, r1, r2⟩
theorem zs_reach257 {n B x y z : Nat} {t : en_H} (g0 : ai_HG ah_G t) (hP : SPXk 257 t) (hZ : ZS B t) (hB : B ≤ 900000) (hx : x < 4294967296) (hy : y < 4294967296) (hz : z < 4294967296) : zs_A 58 59 [gx_r 0, .inl x, .inl y, .inl z] [gx_r 383, .inl x, .inl y, .inl z] t n := by
  obtain ⟨k10, w, L, hR, hC, hX, -, -⟩ := hP
  obtain ⟨T, K, σ, u, τ, F, μ, q, v, ⟨hT, hK⟩, hS, hS', hB5, -, -, -, O, D, ⟨hO, hD⟩, hG⟩ := hZ
  have eT := wv_one hT (hR.1 2 (by decide))
  have eK := wv_one hK (hR.1 4 (by decide))
  have eO := wv_one hO (hR.1 0 (by decide))
  have eD := wv_one hD (hR.1 1 (by decide))
  subst eT eK eO eD
  have hw := WS_of hR
  have hT6 := hw.1.2.2.1
  have hσ := hB5.2.1
  have hb := zs_sbd g0 hS.1
  have hz9 : ∀ i, i < w 0 2 → σ (1 + i) < 64 ∧ inG (w 0 0) (w 0 1) (σ (1 + i)) = true := fun i hi => ⟨Nat.lt_succ_of_le (hb.1 i (by first | decide | omega)), hG.1 i hi⟩
  obtain ⟨_, r1, z1, rfl, a1, a2⟩ := sc_reach257 55 n g0 hC hw hX k10 (fun q hq => (hR.2.2.1 q hq).2) hS'.1 (by first | decide | omega) hz9 hx hy hz
  obtain ⟨_, r2, z2, t2, rfl, b1, b2⟩ := sr_reach 54 n g0 hR hS.1 (by first | decide | omega) (fun i hi => (hz9 i hi).1) hx hy hz
  have e : z2 = z1 := by
    by_cases c : x < w 0 2 ∧ y < w 0 2 ∧ (¬ x = y) ∧ z ≤ 60
    · rw [a1 c, b1 c]
    · rw [a2 c, b2 c]
  subst e
  exact ⟨_, _, _, r1, r2⟩
theorem snR_bd {w : Nat → Nat → Nat} {σ : Nat → Nat} {a b k : Nat} (hk : k ≤ 121) : snR w σ a b (121 - k) k = 4294967295 ∨ snR w σ a b (121 - k) k < 121 := by
  have key : snR w σ a b (121 - k) k = 4294967295 ∨ (k ≤ snR w σ a b (121 - k) k ∧ snR w σ a b (121 - k) k < k + (121 - k)) := snw_lt _ _ _ _
  omega
theorem snR_in {w : Nat → Nat → Nat} {σ : Nat → Nat} {a b k fs : Nat} (hf : fs < 121) (h : snR w σ a b (121 - k) k ≤ fs) : snR w σ a b (fs + 1 - k) k = snR w σ a b (121 - k) k := snw_less _ _ _ _ _ (by first | decide | omega) (Nat.lt_of_le_of_lt h (by first | decide | omega))
theorem snR_out {w : Nat → Nat → Nat} {σ : Nat → Nat} {a b k fs : Nat} (hf : fs < 121) (hk : k ≤ 60) (h : ¬ snR w σ a b (121 - k) k ≤ fs) : snR w σ a b (fs + 1 - k) k = 4294967295 := by
  have key : snR w σ a b (fs + 1 - k) k = 4294967295 ∨ (k ≤ snR w σ a b (fs + 1 - k) k ∧ snR w σ a b (fs + 1 - k) k < k + (fs + 1 - k)) := snw_lt _ _ _ _
  rcases key with e | ⟨e1, e2⟩
  · exact e
  · have e3 : snR w σ a b (121 - k) k = snR w σ a b (fs + 1 - k) k := snw_more _ _ _ _ _ (by first | decide | omega) (show snR w σ a b (fs + 1 - k) k ≠ 4294967295 by omega)
    omega
/-- the last step to set out at and come no later -/
noncomputable def sto (w : Nat → Nat → Nat) (σ : Nat → Nat) (a b : Nat) : Nat := if snR w σ a b 121 0 = 4294967295 then 4294967295 else bst (fun k => snR w σ a b (121 - k) k) (snR w σ a b 121 0) 61
theorem sto_n {w : Nat → Nat → Nat} {σ : Nat → Nat} {a b : Nat} (h : snR w σ a b 121 0 = 4294967295) : sto w σ a b = 4294967295 := if_pos h
theorem sto_y {w : Nat → Nat → Nat} {σ : Nat → Nat} {a b fs : Nat} (e : snR w σ a b 121 0 = fs) (h : fs < 121) : sto w σ a b = bst (fun k => snR w σ a b (121 - k) k) fs 61 := by
  subst e
  exact if_neg (by first | decide | omega)
theorem st_l191 (d n : Nat) {t0 : en_H} {w : Nat → Nat → Nat} {L : List Nat} {σ : Nat → Nat} {x y fs v0 : Nat} {Q : en_O → Prop} (g0 : ai_HG ah_G t0) (hC : CW t0 191 w L) (hw : WS w) (hX : CX t0 191 w) (k10 : ai_hv t0 0 10 = some (gx_r 191)) (hF : ∀ q, q < 64 → w 1 q ≤ 4) (hS : SC t0 8 (w 0 2) (w 0 4) σ) (hB : σ 0 ≤ 900000) (hz9 : ∀ i, i < w 0 2 → σ (1 + i) < 64 ∧ inG (w 0 0) (w 0 1) (σ (1 + i)) = true) (hx : x < w 0 2) (hy : y < w 0 2) (hfl : fs < 121) (efs : snR w σ x y 121 0 = fs) (hQ : Q (.inl (some (.inl v0), t0, n, 0))) : ∀ k cl, k ≤ 60 → bst (fun k => snR w σ x y (121 - k) k) fs (k + 1) = v0 → en_ld cl 0 = some (gx_r 0) → en_ld cl 1 = some (.inl x) → en_ld cl 2 = some (.inl y) → en_ld cl 3 = some (.inl fs) → en_ld cl 4 = some (.inl k) → en_ex none (en_u (d + 4)) (en_code 60) (fun _ => false) (32, cl, [], t0, n, 0) Q := by
  have hT := hw.1.2.2.1
  intro k
  induction k with
  | zero =>
    intro cl hk hv l0 l1 l2 l3 l4
    have h0 : v0 = 0 := hv.symm.trans (bst_y (R := (fun k => snR w σ x y (121 - k) k)) (first := fs) (k := 0) (Nat.le_of_eq efs))
    subst h0
    refine gx_ld (i := 4) (d := 0) (v := .inl 0) rfl (fun _ => rfl) l4 rfl rfl ?_
    refine ex_go (S := (59, cl, [], t0, n, 0)) rfl (fun _ => rfl) rfl ?_
    refine ex_go (S := (60, cl, [.inl 0], t0, n, 0)) rfl (fun _ => rfl) rfl ?_
    refine ex_ret (r := (some (.inl 0), t0, n, 0)) rfl (fun _ => rfl) ?_
    exact hQ
  | succ k ih =>
    intro cl hk hv l0 l1 l2 l3 l4
    refine gx_ld (i := 4) (d := 0) (v := .inl (k + 1)) rfl (fun _ => rfl) l4 rfl rfl ?_
    refine gx_1f (c := .le) rfl (by first | decide | omega) (show ¬ (k + 1 ≤ 0) from by omega) rfl ?_
    refine gx_ld (i := 0) (d := 2) (v := gx_r 0) rfl (fun _ => rfl) l0 rfl rfl ?_
    refine gx_ld (i := 1) (d := 0) (v := .inl x) rfl (fun _ => rfl) l1 rfl rfl ?_
    refine gx_ld (i := 2) (d := 0) (v := .inl y) rfl (fun _ => rfl) l2 rfl rfl ?_
    refine gx_ld (i := 4) (d := 0) (v := .inl (k + 1)) rfl (fun _ => rfl) l4 rfl rfl ?_
    refine gx_ld (i := 3) (d := 0) (v := .inl fs) rfl (fun _ => rfl) l3 rfl rfl ?_
    by_cases h9 : snR w σ x y (121 - (k + 1)) (k + 1) ≤ fs
    · show en_ex _ _ _ _ (43, cl, [.inl fs, .inl (k + 1), .inl y, .inl x, gx_r 0], t0, n, 0) _
      obtain ⟨_, r3, rfl⟩ := sc_soon191 d n (a := x) (b := y) (s := k + 1) (lt := fs) g0 hC hw hX k10 hF hS hB hz9 hx hy (by first | decide | omega) (by first | decide | omega)
      rw [snR_in hfl h9] at r3
      refine gx_callo (a := 0) rfl rfl g0 rfl rfl rfl r3 rfl ?_
      show en_ex _ _ _ _ (46, cl, [.inl (snR w σ x y (121 - (k + 1)) (k + 1))], t0, n, 0) _
      refine ex_go (S := (47, cl, [.inl 4294967295, .inl (snR w σ x y (121 - (k + 1)) (k + 1))], t0, n, 0)) rfl (fun _ => rfl) rfl ?_
      refine gx_2mf (c := .eq) rfl (by first | decide | omega) rfl rfl ?_
      refine gx_ld (i := 4) (d := 0) (v := .inl (k + 1)) rfl (fun _ => rfl) l4 rfl rfl ?_
      refine ex_ret (r := (some (.inl (k + 1)), t0, n, 0)) rfl (fun _ => rfl) ?_
      have h0 : v0 = k + 1 := hv.symm.trans (bst_y (R := (fun k => snR w σ x y (121 - k) k)) (first := fs) (k := k + 1) h9)
      subst h0
      exact hQ
    · show en_ex _ _ _ _ (43, cl, [.inl fs, .inl (k + 1), .inl y, .inl x, gx_r 0], t0, n, 0) _
      obtain ⟨_, r3, rfl⟩ := sc_soon191 d n (a := x) (b := y) (s := k + 1) (lt := fs) g0 hC hw hX k10 hF hS hB hz9 hx hy (by first | decide | omega) (by first | decide | omega)
      rw [snR_out hfl (by first | decide | omega) h9] at r3
      refine gx_callo (a := 0) rfl rfl g0 rfl rfl rfl r3 rfl ?_
      show en_ex _ _ _ _ (46, cl, [.inl 4294967295], t0, n, 0) _
      refine ex_go (S := (47, cl, [.inl 4294967295, .inl 4294967295], t0, n, 0)) rfl (fun _ => rfl) rfl ?_
      refine ex_go (S := (53, cl, [], t0, n, 0)) rfl (fun _ => rfl) rfl ?_
      refine gx_decS (i := 4) (a := k + 1) rfl (fun _ => rfl) l4 (by first | decide | omega) (by first | decide | omega) rfl (fun l21 hl21 ml21 => ?_)
      have l21_0 : en_ld l21 0 = some (gx_r 0) := ml21 0 _ l0 rfl
      have l21_1 : en_ld l21 1 = some (.inl x) := ml21 1 _ l1 rfl
      have l21_2 : en_ld l21 2 = some (.inl y) := ml21 2 _ l2 rfl
      have l21_3 : en_ld l21 3 = some (.inl fs) := ml21 3 _ l3 rfl
      refine ex_go (S := (32, l21, [], t0, n, 0)) rfl (fun _ => rfl) rfl ?_
      exact ih _ (by first | decide | omega) ((bst_n (R := (fun k => snR w σ x y (121 - k) k)) (first := fs) (k := k + 1) h9).symm.trans hv) l21_0 l21_1 l21_2 l21_3 hl21
theorem sc_setout191 (d n : Nat) {t0 : en_H} {w : Nat → Nat → Nat} {L : List Nat} {σ : Nat → Nat} {x y : Nat} (g0 : ai_HG ah_G t0) (hC : CW t0 191 w L) (hw : WS w) (hX : CX t0 191 w) (k10 : ai_hv t0 0 10 = some (gx_r 191)) (hF : ∀ q, q < 64 → w 1 q ≤ 4) (hS : SC t0 8 (w 0 2) (w 0 4) σ) (hB : σ 0 ≤ 900000) (hz9 : ∀ i, i < w 0 2 → σ (1 + i) < 64 ∧ inG (w 0 0) (w 0 1) (σ (1 + i)) = true) (hx : x < 4294967296) (hy : y < 4294967296) : ∃ r, en_u (d + 5) 60 [gx_r 0, .inl x, .inl y] t0 n = some r ∧ ∃ v, r = (some (.inl v), t0, n, 0) ∧ ((x < w 0 2 ∧ y < w 0 2 ∧ ¬ x = y) → v = sto w σ x y) ∧ (¬ (x < w 0 2 ∧ y < w 0 2 ∧ ¬ x = y) → v = 4294967295) := by
  have hT := hw.1.2.2.1
  obtain ⟨fs, efs⟩ : ∃ fs, snR w σ x y 121 0 = fs := ⟨_, rfl⟩
  have hfl : snR w σ x y 121 0 = 4294967295 ∨ snR w σ x y 121 0 < 121 := snR_bd (k := 0) (by decide)
  rw [efs] at hfl
  refine en_u_ex (d := d + 4) rfl ?_
  show en_ex _ _ _ _ (0, [(0, gx_r 0), (1, .inl x), (2, .inl y)], [], t0, n, 0) _
  refine ex_go (S := (1, [(0, gx_r 0), (1, .inl x), (2, .inl y)], [gx_r 0], t0, n, 0)) rfl (fun _ => rfl) rfl ?_
  refine ex_go (S := (2, [(0, gx_r 0), (1, .inl x), (2, .inl y)], [.inl x, gx_r 0], t0, n, 0)) rfl (fun _ => rfl) rfl ?_
  refine ex_go (S := (3, [(0, gx_r 0), (1, .inl x), (2, .inl y)], [.inl y, .inl x, gx_r 0], t0, n, 0)) rfl (fun _ => rfl) rfl ?_
  obtain ⟨_, r121, b121, rfl, hb121, hi121⟩ := sc_two191 (d + 2) n (x := x) (y := y) g0 hC hw k10 hx hy
  refine gx_callo (a := 0) rfl rfl g0 rfl rfl rfl r121 rfl ?_
  show en_ex _ _ _ _ (6, [(0, gx_r 0), (1, .inl x), (2, .inl y)], [.inl b121], t0, n, 0) _
  by_cases hc22 : b121 ≠ 0
  · refine gx_1t (c := .ne) rfl (by first | decide | omega) hc22 rfl ?_
    refine ex_go (S := (12, [(0, gx_r 0), (1, .inl x), (2, .inl y)], [gx_r 0], t0, n, 0)) rfl (fun _ => rfl) rfl ?_
    refine ex_go (S := (13, [(0, gx_r 0), (1, .inl x), (2, .inl y)], [.inl x, gx_r 0], t0, n, 0)) rfl (fun _ => rfl) rfl ?_
    refine ex_go (S := (14, [(0, gx_r 0), (1, .inl x), (2, .inl y)], [.inl y, .inl x, gx_r 0], t0, n, 0)) rfl (fun _ => rfl) rfl ?_
    refine ex_go (S := (15, [(0, gx_r 0), (1, .inl x), (2, .inl y)], [.inl 0, .inl y, .inl x, gx_r 0], t0, n, 0)) rfl (fun _ => rfl) rfl ?_
    refine ex_go (S := (17, [(0, gx_r 0), (1, .inl x), (2, .inl y)], [.inl 120, .inl 0, .inl y, .inl x, gx_r 0], t0, n, 0)) rfl (fun _ => rfl) rfl ?_
    obtain ⟨h31, h32, h33⟩ := hi121.mp (by first | decide | omega)
    obtain ⟨_, r3, rfl⟩ := sc_soon191 d n (a := x) (b := y) (s := 0) (lt := 120) g0 hC hw hX k10 hF hS hB hz9 h31 h32 (by first | decide | omega) (by decide)
    rw [show snR w σ x y (120 + 1 - 0) 0 = fs from efs] at r3
    refine gx_callo (a := 0) rfl rfl g0 rfl rfl rfl r3 rfl ?_
    show en_ex _ _ _ _ (20, [(0, gx_r 0), (1, .inl x), (2, .inl y)], [.inl fs], t0, n, 0) _
    rcases hfl with rfl | hfl
    · show en_ex _ _ _ _ (20, [(0, gx_r 0), (1, .inl x), (2, .inl y)], [.inl 4294967295], t0, n, 0) _
      refine ex_go (S := (21, [(3, .inl 4294967295), (0, gx_r 0), (1, .inl x), (2, .inl y)], [], t0, n, 0)) rfl (fun _ => rfl) rfl ?_
      refine ex_go (S := (22, [(3, .inl 4294967295), (0, gx_r 0), (1, .inl x), (2, .inl y)], [.inl 4294967295], t0, n, 0)) rfl (fun _ => rfl) rfl ?_
      refine ex_go (S := (23, [(3, .inl 4294967295), (0, gx_r 0), (1, .inl x), (2, .inl y)], [.inl 4294967295, .inl 4294967295], t0, n, 0)) rfl (fun _ => rfl) rfl ?_
      refine ex_go (S := (26, [(3, .inl 4294967295), (0, gx_r 0), (1, .inl x), (2, .inl y)], [], t0, n, 0)) rfl (fun _ => rfl) rfl ?_
      refine ex_go (S := (27, [(3, .inl 4294967295), (0, gx_r 0), (1, .inl x), (2, .inl y)], [.inl 4294967295], t0, n, 0)) rfl (fun _ => rfl) rfl ?_
      refine ex_ret (r := (some (.inl 4294967295), t0, n, 0)) rfl (fun _ => rfl) ?_
      exact ⟨_, rfl, _, rfl, (fun _ => (sto_n efs).symm), (fun _ => rfl)⟩
    · show en_ex _ _ _ _ (20, [(0, gx_r 0), (1, .inl x), (2, .inl y)], [.inl fs], t0, n, 0) _
      refine ex_go (S := (21, [(3, .inl fs), (0, gx_r 0), (1, .inl x), (2, .inl y)], [], t0, n, 0)) rfl (fun _ => rfl) rfl ?_
      refine ex_go (S := (22, [(3, .inl fs), (0, gx_r 0), (1, .inl x), (2, .inl y)], [.inl fs], t0, n, 0)) rfl (fun _ => rfl) rfl ?_
      refine ex_go (S := (23, [(3, .inl fs), (0, gx_r 0), (1, .inl x), (2, .inl y)], [.inl 4294967295, .inl fs], t0, n, 0)) rfl (fun _ => rfl) rfl ?_
      refine gx_2mt (c := .ne) rfl (by first | decide | omega) rfl rfl ?_
      refine ex_go (S := (30, [(3, .inl fs), (0, gx_r 0), (1, .inl x), (2, .inl y)], [.inl 60], t0, n, 0)) rfl (fun _ => rfl) rfl ?_
      refine ex_go (S := (32, [(4, .inl 60), (3, .inl fs), (0, gx_r 0), (1, .inl x), (2, .inl y)], [], t0, n, 0)) rfl (fun _ => rfl) rfl ?_
      exact st_l191 d n g0 hC hw hX k10 hF hS hB hz9 h31 h32 hfl efs (v0 := bst (fun k => snR w σ x y (121 - k) k) fs 61) ⟨_, rfl, _, rfl, (fun _ => (sto_y efs hfl).symm), (fun c9 => absurd ⟨h31, h32, h33⟩ c9)⟩ 60 _ (by decide) rfl rfl rfl rfl rfl rfl
  · refine gx_1f (c := .ne) rfl (by first | decide | omega) hc22 rfl ?_
    refine ex_go (S := (10, [(0, gx_r 0), (1, .inl x), (2, .inl y)], [.inl 4294967295], t0, n, 0)) rfl (fun _ => rfl) rfl ?_
    refine ex_ret (r := (some (.inl 4294967295), t0, n, 0)) rfl (fun _ => rfl) ?_
    exact ⟨_, rfl, _, rfl, (fun c9 => absurd (hi121.mpr ⟨c9.1, c9.2.1, c9.2.2⟩) (by first | decide | omega)), (fun _ => rfl)⟩
theorem st_l257 (d n : Nat) {t0 : en_H} {w : Nat → Nat → Nat} {L : List Nat} {σ : Nat → Nat} {x y fs v0 : Nat} {Q : en_O → Prop} (g0 : ai_HG ah_G t0) (hC : CW t0 257 w L) (hw : WS w) (hX : CX t0 257 w) (k10 : ai_hv t0 0 10 = some (gx_r 257)) (hF : ∀ q, q < 64 → w 1 q ≤ 4) (hS : SC t0 8 (w 0 2) (w 0 4) σ) (hB : σ 0 ≤ 900000) (hz9 : ∀ i, i < w 0 2 → σ (1 + i) < 64 ∧ inG (w 0 0) (w 0 1) (σ (1 + i)) = true) (hx : x < w 0 2) (hy : y < w 0 2) (hfl : fs < 121) (efs : snR w σ x y 121 0 = fs) (hQ : Q (.inl (some (.inl v0), t0, n, 0))) : ∀ k cl, k ≤ 60 → bst (fun k => snR w σ x y (121 - k) k) fs (k + 1) = v0 → en_ld cl 0 = some (gx_r 0) → en_ld cl 1 = some (.inl x) → en_ld cl 2 = some (.inl y) → en_ld cl 3 = some (.inl fs) → en_ld cl 4 = some (.inl k) → en_ex none (en_u (d + 4)) (en_code 60) (fun _ => false) (32, cl, [], t0, n, 0) Q := by
  have hT := hw.1.2.2.1
  intro k
  induction k with
  | zero =>
    intro cl hk hv l0 l1 l2 l3 l4
    have h0 : v0 = 0 := hv.symm.trans (bst_y (R := (fun k => snR w σ x y (121 - k) k)) (first := fs) (k := 0) (Nat.le_of_eq efs))
    subst h0
    refine gx_ld (i := 4) (d := 0) (v := .inl 0) rfl (fun _ => rfl) l4 rfl rfl ?_
    refine ex_go (S := (59, cl, [], t0, n, 0)) rfl (fun _ => rfl) rfl ?_
    refine ex_go (S := (60, cl, [.inl 0], t0, n, 0)) rfl (fun _ => rfl) rfl ?_
    refine ex_ret (r := (some (.inl 0), t0, n, 0)) rfl (fun _ => rfl) ?_
    exact hQ
  | succ k ih =>
    intro cl hk hv l0 l1 l2 l3 l4
    refine gx_ld (i := 4) (d := 0) (v := .inl (k + 1)) rfl (fun _ => rfl) l4 rfl rfl ?_
    refine gx_1f (c := .le) rfl (by first | decide | omega) (show ¬ (k + 1 ≤ 0) from by omega) rfl ?_
    refine gx_ld (i := 0) (d := 2) (v := gx_r 0) rfl (fun _ => rfl) l0 rfl rfl ?_
    refine gx_ld (i := 1) (d := 0) (v := .inl x) rfl (fun _ => rfl) l1 rfl rfl ?_
    refine gx_ld (i := 2) (d := 0) (v := .inl y) rfl (fun _ => rfl) l2 rfl rfl ?_
    refine gx_ld (i := 4) (d := 0) (v := .inl (k + 1)) rfl (fun _ => rfl) l4 rfl rfl ?_
    refine gx_ld (i := 3) (d := 0) (v := .inl fs) rfl (fun _ => rfl) l3 rfl rfl ?_
    by_cases h9 : snR w σ x y (121 - (k + 1)) (k + 1) ≤ fs
    · show en_ex _ _ _ _ (43, cl, [.inl fs, .inl (k + 1), .inl y, .inl x, gx_r 0], t0, n, 0) _
      obtain ⟨_, r3, rfl⟩ := sc_soon257 d n (a := x) (b := y) (s := k + 1) (lt := fs) g0 hC hw hX k10 hF hS hB hz9 hx hy (by first | decide | omega) (by first | decide | omega)
      rw [snR_in hfl h9] at r3
      refine gx_callo (a := 0) rfl rfl g0 rfl rfl rfl r3 rfl ?_
      show en_ex _ _ _ _ (46, cl, [.inl (snR w σ x y (121 - (k + 1)) (k + 1))], t0, n, 0) _
      refine ex_go (S := (47, cl, [.inl 4294967295, .inl (snR w σ x y (121 - (k + 1)) (k + 1))], t0, n, 0)) rfl (fun _ => rfl) rfl ?_
      refine gx_2mf (c := .eq) rfl (by first | decide | omega) rfl rfl ?_
      refine gx_ld (i := 4) (d := 0) (v := .inl (k + 1)) rfl (fun _ => rfl) l4 rfl rfl ?_
      refine ex_ret (r := (some (.inl (k + 1)), t0, n, 0)) rfl (fun _ => rfl) ?_
      have h0 : v0 = k + 1 := hv.symm.trans (bst_y (R := (fun k => snR w σ x y (121 - k) k)) (first := fs) (k := k + 1) h9)
      subst h0
      exact hQ
    · show en_ex _ _ _ _ (43, cl, [.inl fs, .inl (k + 1), .inl y, .inl x, gx_r 0], t0, n, 0) _
      obtain ⟨_, r3, rfl⟩ := sc_soon257 d n (a := x) (b := y) (s := k + 1) (lt := fs) g0 hC hw hX k10 hF hS hB hz9 hx hy (by first | decide | omega) (by first | decide | omega)
      rw [snR_out hfl (by first | decide | omega) h9] at r3
      refine gx_callo (a := 0) rfl rfl g0 rfl rfl rfl r3 rfl ?_
      show en_ex _ _ _ _ (46, cl, [.inl 4294967295], t0, n, 0) _
      refine ex_go (S := (47, cl, [.inl 4294967295, .inl 4294967295], t0, n, 0)) rfl (fun _ => rfl) rfl ?_
      refine ex_go (S := (53, cl, [], t0, n, 0)) rfl (fun _ => rfl) rfl ?_
      refine gx_decS (i := 4) (a := k + 1) rfl (fun _ => rfl) l4 (by first | decide | omega) (by first | decide | omega) rfl (fun l21 hl21 ml21 => ?_)
      have l21_0 : en_ld l21 0 = some (gx_r 0) := ml21 0 _ l0 rfl
      have l21_1 : en_ld l21 1 = some (.inl x) := ml21 1 _ l1 rfl
      have l21_2 : en_ld l21 2 = some (.inl y) := ml21 2 _ l2 rfl
      have l21_3 : en_ld l21 3 = some (.inl fs) := ml21 3 _ l3 rfl
      refine ex_go (S := (32, l21, [], t0, n, 0)) rfl (fun _ => rfl) rfl ?_
      exact ih _ (by first | decide | omega) ((bst_n (R := (fun k => snR w σ x y (121 - k) k)) (first := fs) (k := k + 1) h9).symm.trans hv) l21_0 l21_1 l21_2 l21_3 hl21
theorem sc_setout257 (d n : Nat) {t0 : en_H} {w : Nat → Nat → Nat} {L : List Nat} {σ : Nat → Nat} {x y : Nat} (g0 : ai_HG ah_G t0) (hC : CW t0 257 w L) (hw : WS w) (hX : CX t0 257 w) (k10 : ai_hv t0 0 10 = some (gx_r 257)) (hF : ∀ q, q < 64 → w 1 q ≤ 4) (hS : SC t0 8 (w 0 2) (w 0 4) σ) (hB : σ 0 ≤ 900000) (hz9 : ∀ i, i < w 0 2 → σ (1 + i) < 64 ∧ inG (w 0 0) (w 0 1) (σ (1 + i)) = true) (hx : x < 4294967296) (hy : y < 4294967296) : ∃ r, en_u (d + 5) 60 [gx_r 0, .inl x, .inl y] t0 n = some r ∧ ∃ v, r = (some (.inl v), t0, n, 0) ∧ ((x < w 0 2 ∧ y < w 0 2 ∧ ¬ x = y) → v = sto w σ x y) ∧ (¬ (x < w 0 2 ∧ y < w 0 2 ∧ ¬ x = y) → v = 4294967295) := by
  have hT := hw.1.2.2.1
  obtain ⟨fs, efs⟩ : ∃ fs, snR w σ x y 121 0 = fs := ⟨_, rfl⟩
  have hfl : snR w σ x y 121 0 = 4294967295 ∨ snR w σ x y 121 0 < 121 := snR_bd (k := 0) (by decide)
  rw [efs] at hfl
  refine en_u_ex (d := d + 4) rfl ?_
  show en_ex _ _ _ _ (0, [(0, gx_r 0), (1, .inl x), (2, .inl y)], [], t0, n, 0) _
  refine ex_go (S := (1, [(0, gx_r 0), (1, .inl x), (2, .inl y)], [gx_r 0], t0, n, 0)) rfl (fun _ => rfl) rfl ?_
  refine ex_go (S := (2, [(0, gx_r 0), (1, .inl x), (2, .inl y)], [.inl x, gx_r 0], t0, n, 0)) rfl (fun _ => rfl) rfl ?_
  refine ex_go (S := (3, [(0, gx_r 0), (1, .inl x), (2, .inl y)], [.inl y, .inl x, gx_r 0], t0, n, 0)) rfl (fun _ => rfl) rfl ?_
  obtain ⟨_, r121, b121, rfl, hb121, hi121⟩ := sc_two257 (d + 2) n (x := x) (y := y) g0 hC hw k10 hx hy
  refine gx_callo (a := 0) rfl rfl g0 rfl rfl rfl r121 rfl ?_
  show en_ex _ _ _ _ (6, [(0, gx_r 0), (1, .inl x), (2, .inl y)], [.inl b121], t0, n, 0) _
  by_cases hc22 : b121 ≠ 0
  · refine gx_1t (c := .ne) rfl (by first | decide | omega) hc22 rfl ?_
    refine ex_go (S := (12, [(0, gx_r 0), (1, .inl x), (2, .inl y)], [gx_r 0], t0, n, 0)) rfl (fun _ => rfl) rfl ?_
    refine ex_go (S := (13, [(0, gx_r 0), (1, .inl x), (2, .inl y)], [.inl x, gx_r 0], t0, n, 0)) rfl (fun _ => rfl) rfl ?_
    refine ex_go (S := (14, [(0, gx_r 0), (1, .inl x), (2, .inl y)], [.inl y, .inl x, gx_r 0], t0, n, 0)) rfl (fun _ => rfl) rfl ?_
    refine ex_go (S := (15, [(0, gx_r 0), (1, .inl x), (2, .inl y)], [.inl 0, .inl y, .inl x, gx_r 0], t0, n, 0)) rfl (fun _ => rfl) rfl ?_
    refine ex_go (S := (17, [(0, gx_r 0), (1, .inl x), (2, .inl y)], [.inl 120, .inl 0, .inl y, .inl x, gx_r 0], t0, n, 0)) rfl (fun _ => rfl) rfl ?_
    obtain ⟨h31, h32, h33⟩ := hi121.mp (by first | decide | omega)
    obtain ⟨_, r3, rfl⟩ := sc_soon257 d n (a := x) (b := y) (s := 0) (lt := 120) g0 hC hw hX k10 hF hS hB hz9 h31 h32 (by first | decide | omega) (by decide)
    rw [show snR w σ x y (120 + 1 - 0) 0 = fs from efs] at r3
    refine gx_callo (a := 0) rfl rfl g0 rfl rfl rfl r3 rfl ?_
    show en_ex _ _ _ _ (20, [(0, gx_r 0), (1, .inl x), (2, .inl y)], [.inl fs], t0, n, 0) _
    rcases hfl with rfl | hfl
    · show en_ex _ _ _ _ (20, [(0, gx_r 0), (1, .inl x), (2, .inl y)], [.inl 4294967295], t0, n, 0) _
      refine ex_go (S := (21, [(3, .inl 4294967295), (0, gx_r 0), (1, .inl x), (2, .inl y)], [], t0, n, 0)) rfl (fun _ => rfl) rfl ?_
      refine ex_go (S := (22, [(3, .inl 4294967295), (0, gx_r 0), (1, .inl x), (2, .inl y)], [.inl 4294967295], t0, n, 0)) rfl (fun _ => rfl) rfl ?_
      refine ex_go (S := (23, [(3, .inl 4294967295), (0, gx_r 0), (1, .inl x), (2, .inl y)], [.inl 4294967295, .inl 4294967295], t0, n, 0)) rfl (fun _ => rfl) rfl ?_
      refine ex_go (S := (26, [(3, .inl 4294967295), (0, gx_r 0), (1, .inl x), (2, .inl y)], [], t0, n, 0)) rfl (fun _ => rfl) rfl ?_
      refine ex_go (S := (27, [(3, .inl 4294967295), (0, gx_r 0), (1, .inl x), (2, .inl y)], [.inl 4294967295], t0, n, 0)) rfl (fun _ => rfl) rfl ?_
      refine ex_ret (r := (some (.inl 4294967295), t0, n, 0)) rfl (fun _ => rfl) ?_
      exact ⟨_, rfl, _, rfl, (fun _ => (sto_n efs).symm), (fun _ => rfl)⟩
    · show en_ex _ _ _ _ (20, [(0, gx_r 0), (1, .inl x), (2, .inl y)], [.inl fs], t0, n, 0) _
      refine ex_go (S := (21, [(3, .inl fs), (0, gx_r 0), (1, .inl x), (2, .inl y)], [], t0, n, 0)) rfl (fun _ => rfl) rfl ?_
      refine ex_go (S := (22, [(3, .inl fs), (0, gx_r 0), (1, .inl x), (2, .inl y)], [.inl fs], t0, n, 0)) rfl (fun _ => rfl) rfl ?_
      refine ex_go (S := (23, [(3, .inl fs), (0, gx_r 0), (1, .inl x), (2, .inl y)], [.inl 4294967295, .inl fs], t0, n, 0)) rfl (fun _ => rfl) rfl ?_
      refine gx_2mt (c := .ne) rfl (by first | decide | omega) rfl rfl ?_
      refine ex_go (S := (30, [(3, .inl fs), (0, gx_r 0), (1, .inl x), (2, .inl y)], [.inl 60], t0, n, 0)) rfl (fun _ => rfl) rfl ?_
      refine ex_go (S := (32, [(4, .inl 60), (3, .inl fs), (0, gx_r 0), (1, .inl x), (2, .inl y)], [], t0, n, 0)) rfl (fun _ => rfl) rfl ?_
      exact st_l257 d n g0 hC hw hX k10 hF hS hB hz9 h31 h32 hfl efs (v0 := bst (fun k => snR w σ x y (121 - k) k) fs 61) ⟨_, rfl, _, rfl, (fun _ => (sto_y efs hfl).symm), (fun c9 => absurd ⟨h31, h32, h33⟩ c9)⟩ 60 _ (by decide) rfl rfl rfl rfl rfl rfl
  · refine gx_1f (c := .ne) rfl (by first | decide | omega) hc22 rfl ?_
    refine ex_go (S := (10, [(0, gx_r 0), (1, .inl x), (2, .inl y)], [.inl 4294967295], t0, n, 0)) rfl (fun _ => rfl) rfl ?_
    refine ex_ret (r := (some (.inl 4294967295), t0, n, 0)) rfl (fun _ => rfl) ?_
    exact ⟨_, rfl, _, rfl, (fun c9 => absurd (hi121.mpr ⟨c9.1, c9.2.1, c9.2.2⟩) (by first | decide | omega)), (fun _ => rfl)⟩
theorem ro_s (d n : Nat) {tb : en_H} {w : Nat → Nat → Nat} {L : List Nat} {σ : Nat → Nat} {x y fs v0 : Nat} {Q : en_O → Prop} (hR : RW tb w L) (hS : blk tb 0 σ) (hB : σ 0 ≤ 900000) (hz9 : ∀ i, i < w 0 2 → σ (1 + i) < 64) (hx : x < w 0 2) (hy : y < w 0 2) (hfl : fs < 121) (hv : bst (fun k => snR w σ x y (121 - k) k) fs 61 = v0) (hQ : ∀ t1, Q (.inl (some (.inl v0), t1, n, 0))) : ∀ j k cl t0, k + j = 61 → ai_HG ah_G t0 → (∀ c i, ¬ (c = 401 ∨ c = 402) → ai_hv t0 c i = ai_hv tb c i) → en_ld cl 0 = some (gx_r 383) → en_ld cl 1 = some (.inl x) → en_ld cl 2 = some (.inl y) → en_ld cl 3 = some (.inl fs) → en_ld cl 4 = some (.inl (bst (fun k => snR w σ x y (121 - k) k) fs k)) → en_ld cl 5 = some (.inl k) → en_ex none (en_u (d + 5)) (en_code 61) (fun _ => false) (44, cl, [], t0, n, 0) Q := by
  have hT := hR.2.1.2.2.1
  intro j
  induction j with
  | zero =>
    intro k cl t0 hk g0 e0 l0 l1 l2 l3 l4 l5
    have hk : k = 61 := by omega
    subst hk
    rw [hv] at l4
    refine gx_ld (i := 5) (d := 0) (v := .inl 61) rfl (fun _ => rfl) l5 rfl rfl ?_
    refine ex_go (S := (48, cl, [.inl 60, .inl 61], t0, n, 0)) rfl (fun _ => rfl) rfl ?_
    refine ex_go (S := (91, cl, [], t0, n, 0)) rfl (fun _ => rfl) rfl ?_
    refine gx_ld (i := 4) (d := 0) (v := .inl v0) rfl (fun _ => rfl) l4 rfl rfl ?_
    refine ex_ret (r := (some (.inl v0), t0, n, 0)) rfl (fun _ => rfl) ?_
    exact hQ _
  | succ j ih =>
    intro k cl t0 hk g0 e0 l0 l1 l2 l3 l4 l5
    refine gx_ld (i := 5) (d := 0) (v := .inl k) rfl (fun _ => rfl) l5 rfl rfl ?_
    refine ex_go (S := (48, cl, [.inl 60, .inl k], t0, n, 0)) rfl (fun _ => rfl) rfl ?_
    refine gx_2f (c := .gt) rfl (by first | decide | omega) (by first | decide | omega) (show ¬ (60 < k) from by omega) rfl ?_
    refine gx_ld (i := 3) (d := 0) (v := .inl fs) rfl (fun _ => rfl) l3 rfl rfl ?_
    refine gx_1f (c := .lt) rfl (by first | decide | omega) (show ¬ (fs < 0) from by omega) rfl ?_
    refine gx_ld (i := 0) (d := 2) (v := gx_r 383) rfl (fun _ => rfl) l0 rfl rfl ?_
    refine gx_ld (i := 1) (d := 0) (v := .inl x) rfl (fun _ => rfl) l1 rfl rfl ?_
    refine gx_ld (i := 2) (d := 0) (v := .inl y) rfl (fun _ => rfl) l2 rfl rfl ?_
    refine gx_ld (i := 5) (d := 0) (v := .inl k) rfl (fun _ => rfl) l5 rfl rfl ?_
    obtain ⟨_, r121, t121, rfl, g121, e121⟩ := sr_reachOf d n (σ := σ) (a := x) (b := y) (s := k) g0 (RW_keep hR (fun i hi => e0 389 i (by first | decide | omega)) (fun c i hc _ => e0 c i (by first | decide | omega))) (blk_keep hS (fun j hj => e0 399 _ (by first | decide | omega))) hB hz9 hx hy (by first | decide | omega)
    obtain ⟨rv, erv⟩ : ∃ rv, snR w σ x y (121 - k) k = rv := ⟨_, rfl⟩
    have hr9 : snR w σ x y (121 - k) k = 4294967295 ∨ snR w σ x y (121 - k) k < 121 := snR_bd (by first | decide | omega)
    rw [erv] at r121 hr9
    refine gx_call1 rfl rfl g0 rfl rfl r121 rfl ?_
    show en_ex _ _ _ _ (63, cl, [.inl rv], t121, n, 0) _
    rcases hr9 with rfl | hr9
    · show en_ex _ _ _ _ (63, cl, [.inl 4294967295], t121, n, 0) _
      refine gx_sto (i := 6) (d := 0) rfl (fun _ => rfl) rfl rfl (fun l22 hl22 ml22 => ?_)
      have l22_0 : en_ld l22 0 = some (gx_r 383) := ml22 0 _ l0 rfl
      have l22_1 : en_ld l22 1 = some (.inl x) := ml22 1 _ l1 rfl
      have l22_2 : en_ld l22 2 = some (.inl y) := ml22 2 _ l2 rfl
      have l22_3 : en_ld l22 3 = some (.inl fs) := ml22 3 _ l3 rfl
      have l22_4 : en_ld l22 4 = some (.inl (bst (fun k => snR w σ x y (121 - k) k) fs k)) := ml22 4 _ l4 rfl
      have l22_5 : en_ld l22 5 = some (.inl k) := ml22 5 _ l5 rfl
      refine gx_ld (i := 6) (d := 0) (v := .inl 4294967295) rfl (fun _ => rfl) hl22 rfl rfl ?_
      refine ex_go (S := (81, l22, [], t121, n, 0)) rfl (fun _ => rfl) rfl ?_
      refine gx_ld (i := 4) (d := 0) (v := .inl (bst (fun k => snR w σ x y (121 - k) k) fs k)) rfl (fun _ => rfl) l22_4 rfl rfl ?_
      refine gx_sto (i := 4) (d := 0) rfl (fun _ => rfl) rfl rfl (fun l23 hl23 ml23 => ?_)
      have l23_0 : en_ld l23 0 = some (gx_r 383) := ml23 0 _ l22_0 rfl
      have l23_1 : en_ld l23 1 = some (.inl x) := ml23 1 _ l22_1 rfl
      have l23_2 : en_ld l23 2 = some (.inl y) := ml23 2 _ l22_2 rfl
      have l23_3 : en_ld l23 3 = some (.inl fs) := ml23 3 _ l22_3 rfl
      have l23_5 : en_ld l23 5 = some (.inl k) := ml23 5 _ l22_5 rfl
      have l23_6 : en_ld l23 6 = some (.inl 4294967295) := ml23 6 _ hl22 rfl
      refine gx_incS (i := 5) (a := k) (x := 1) rfl (fun _ => rfl) l23_5 (by first | decide | omega) rfl (fun l24 hl24 ml24 => ?_)
      have l24_0 : en_ld l24 0 = some (gx_r 383) := ml24 0 _ l23_0 rfl
      have l24_1 : en_ld l24 1 = some (.inl x) := ml24 1 _ l23_1 rfl
      have l24_2 : en_ld l24 2 = some (.inl y) := ml24 2 _ l23_2 rfl
      have l24_3 : en_ld l24 3 = some (.inl fs) := ml24 3 _ l23_3 rfl
      have l24_6 : en_ld l24 6 = some (.inl 4294967295) := ml24 6 _ l23_6 rfl
      have l24_4 : en_ld l24 4 = some (.inl (bst (fun k => snR w σ x y (121 - k) k) fs k)) := ml24 4 _ hl23 rfl
      refine ex_go (S := (44, l24, [], t121, n, 0)) rfl (fun _ => rfl) rfl ?_
      refine ih (k + 1) _ _ (by first | decide | omega) g121 (fun c i h => (e121 c i (by first | decide | omega)).trans (e0 c i (by first | decide | omega))) l24_0 l24_1 l24_2 l24_3 ?_ hl24
      rw [show bst (fun k => snR w σ x y (121 - k) k) fs (k + 1) = bst (fun k => snR w σ x y (121 - k) k) fs k from bst_n (R := (fun k => snR w σ x y (121 - k) k)) (first := fs) (k := k) (by show ¬ snR w σ x y (121 - k) k ≤ fs; omega)]
      exact l24_4
    · show en_ex _ _ _ _ (63, cl, [.inl rv], t121, n, 0) _
      refine gx_sto (i := 6) (d := 0) rfl (fun _ => rfl) rfl rfl (fun l25 hl25 ml25 => ?_)
      have l25_0 : en_ld l25 0 = some (gx_r 383) := ml25 0 _ l0 rfl
      have l25_1 : en_ld l25 1 = some (.inl x) := ml25 1 _ l1 rfl
      have l25_2 : en_ld l25 2 = some (.inl y) := ml25 2 _ l2 rfl
      have l25_3 : en_ld l25 3 = some (.inl fs) := ml25 3 _ l3 rfl
      have l25_4 : en_ld l25 4 = some (.inl (bst (fun k => snR w σ x y (121 - k) k) fs k)) := ml25 4 _ l4 rfl
      have l25_5 : en_ld l25 5 = some (.inl k) := ml25 5 _ l5 rfl
      refine gx_ld (i := 6) (d := 0) (v := .inl rv) rfl (fun _ => rfl) hl25 rfl rfl ?_
      refine gx_1f (c := .lt) rfl (by first | decide | omega) (show ¬ (rv < 0) from by omega) rfl ?_
      refine gx_ld (i := 6) (d := 0) (v := .inl rv) rfl (fun _ => rfl) hl25 rfl rfl ?_
      refine gx_ld (i := 3) (d := 0) (v := .inl fs) rfl (fun _ => rfl) l25_3 rfl rfl ?_
      by_cases hc26 : fs < rv
      · refine gx_2t (c := .gt) rfl (by first | decide | omega) (by first | decide | omega) hc26 rfl ?_
        refine gx_ld (i := 4) (d := 0) (v := .inl (bst (fun k => snR w σ x y (121 - k) k) fs k)) rfl (fun _ => rfl) l25_4 rfl rfl ?_
        refine gx_sto (i := 4) (d := 0) rfl (fun _ => rfl) rfl rfl (fun l27 hl27 ml27 => ?_)
        have l27_0 : en_ld l27 0 = some (gx_r 383) := ml27 0 _ l25_0 rfl
        have l27_1 : en_ld l27 1 = some (.inl x) := ml27 1 _ l25_1 rfl
        have l27_2 : en_ld l27 2 = some (.inl y) := ml27 2 _ l25_2 rfl
        have l27_3 : en_ld l27 3 = some (.inl fs) := ml27 3 _ l25_3 rfl
        have l27_5 : en_ld l27 5 = some (.inl k) := ml27 5 _ l25_5 rfl
        have l27_6 : en_ld l27 6 = some (.inl rv) := ml27 6 _ hl25 rfl
        refine gx_incS (i := 5) (a := k) (x := 1) rfl (fun _ => rfl) l27_5 (by first | decide | omega) rfl (fun l28 hl28 ml28 => ?_)
        have l28_0 : en_ld l28 0 = some (gx_r 383) := ml28 0 _ l27_0 rfl
        have l28_1 : en_ld l28 1 = some (.inl x) := ml28 1 _ l27_1 rfl
        have l28_2 : en_ld l28 2 = some (.inl y) := ml28 2 _ l27_2 rfl
        have l28_3 : en_ld l28 3 = some (.inl fs) := ml28 3 _ l27_3 rfl
        have l28_6 : en_ld l28 6 = some (.inl rv) := ml28 6 _ l27_6 rfl
        have l28_4 : en_ld l28 4 = some (.inl (bst (fun k => snR w σ x y (121 - k) k) fs k)) := ml28 4 _ hl27 rfl
        refine ex_go (S := (44, l28, [], t121, n, 0)) rfl (fun _ => rfl) rfl ?_
        refine ih (k + 1) _ _ (by first | decide | omega) g121 (fun c i h => (e121 c i (by first | decide | omega)).trans (e0 c i (by first | decide | omega))) l28_0 l28_1 l28_2 l28_3 ?_ hl28
        rw [show bst (fun k => snR w σ x y (121 - k) k) fs (k + 1) = bst (fun k => snR w σ x y (121 - k) k) fs k from bst_n (R := (fun k => snR w σ x y (121 - k) k)) (first := fs) (k := k) (by show ¬ snR w σ x y (121 - k) k ≤ fs; omega)]
        exact l28_4
      · refine gx_2f (c := .gt) rfl (by first | decide | omega) (by first | decide | omega) hc26 rfl ?_
        refine gx_ld (i := 5) (d := 0) (v := .inl k) rfl (fun _ => rfl) l25_5 rfl rfl ?_
        refine ex_go (S := (83, l25, [.inl k], t121, n, 0)) rfl (fun _ => rfl) rfl ?_
        refine gx_sto (i := 4) (d := 0) rfl (fun _ => rfl) rfl rfl (fun l29 hl29 ml29 => ?_)
        have l29_0 : en_ld l29 0 = some (gx_r 383) := ml29 0 _ l25_0 rfl
        have l29_1 : en_ld l29 1 = some (.inl x) := ml29 1 _ l25_1 rfl
        have l29_2 : en_ld l29 2 = some (.inl y) := ml29 2 _ l25_2 rfl
        have l29_3 : en_ld l29 3 = some (.inl fs) := ml29 3 _ l25_3 rfl
        have l29_5 : en_ld l29 5 = some (.inl k) := ml29 5 _ l25_5 rfl
        have l29_6 : en_ld l29 6 = some (.inl rv) := ml29 6 _ hl25 rfl
        refine gx_incS (i := 5) (a := k) (x := 1) rfl (fun _ => rfl) l29_5 (by first | decide | omega) rfl (fun l30 hl30 ml30 => ?_)
        have l30_0 : en_ld l30 0 = some (gx_r 383) := ml30 0 _ l29_0 rfl
        have l30_1 : en_ld l30 1 = some (.inl x) := ml30 1 _ l29_1 rfl
        have l30_2 : en_ld l30 2 = some (.inl y) := ml30 2 _ l29_2 rfl
        have l30_3 : en_ld l30 3 = some (.inl fs) := ml30 3 _ l29_3 rfl
        have l30_6 : en_ld l30 6 = some (.inl rv) := ml30 6 _ l29_6 rfl
        have l30_4 : en_ld l30 4 = some (.inl k) := ml30 4 _ hl29 rfl
        refine ex_go (S := (44, l30, [], t121, n, 0)) rfl (fun _ => rfl) rfl ?_
        refine ih (k + 1) _ _ (by first | decide | omega) g121 (fun c i h => (e121 c i (by first | decide | omega)).trans (e0 c i (by first | decide | omega))) l30_0 l30_1 l30_2 l30_3 ?_ hl30
        rw [show bst (fun k => snR w σ x y (121 - k) k) fs (k + 1) = k from bst_y (R := (fun k => snR w σ x y (121 - k) k)) (first := fs) (k := k) (by show snR w σ x y (121 - k) k ≤ fs; omega)]
        exact l30_4
theorem sr_setout (d n : Nat) {t0 : en_H} {w : Nat → Nat → Nat} {L : List Nat} {σ : Nat → Nat} {x y : Nat} (g0 : ai_HG ah_G t0) (hR : RW t0 w L) (hS : blk t0 0 σ) (hB : σ 0 ≤ 900000) (hz9 : ∀ i, i < w 0 2 → σ (1 + i) < 64) (hx : x < 4294967296) (hy : y < 4294967296) : ∃ r, en_u (d + 6) 61 [gx_r 383, .inl x, .inl y] t0 n = some r ∧ ∃ v t', r = (some (.inl v), t', n, 0) ∧ ((x < w 0 2 ∧ y < w 0 2 ∧ ¬ x = y) → v = sto w σ x y) ∧ (¬ (x < w 0 2 ∧ y < w 0 2 ∧ ¬ x = y) → v = 4294967295) := by
  have hT := hR.2.1.2.2.1
  obtain ⟨fs, efs⟩ : ∃ fs, snR w σ x y 121 0 = fs := ⟨_, rfl⟩
  have hfl : snR w σ x y 121 0 = 4294967295 ∨ snR w σ x y 121 0 < 121 := snR_bd (k := 0) (by decide)
  rw [efs] at hfl
  refine en_u_ex (d := d + 5) rfl ?_
  show en_ex _ _ _ _ (0, [(0, gx_r 383), (1, .inl x), (2, .inl y)], [], t0, n, 0) _
  refine ex_go (S := (1, [(0, gx_r 383), (1, .inl x), (2, .inl y)], [gx_r 383], t0, n, 0)) rfl (fun _ => rfl) rfl ?_
  refine ex_go (S := (2, [(0, gx_r 383), (1, .inl x), (2, .inl y)], [.inl 0, gx_r 383], t0, n, 0)) rfl (fun _ => rfl) rfl ?_
  refine gx_put rfl g0 rfl rfl (ai_in_h (by first | decide | omega) (by first | decide | omega) (by first | decide | omega)) rfl (fun t121 g121 k121 e121 => ?_)
  refine ex_go (S := (6, [(0, gx_r 383), (1, .inl x), (2, .inl y)], [gx_r 383], t121, n, 0)) rfl (fun _ => rfl) rfl ?_
  refine ex_go (S := (7, [(0, gx_r 383), (1, .inl x), (2, .inl y)], [.inl x, gx_r 383], t121, n, 0)) rfl (fun _ => rfl) rfl ?_
  obtain ⟨_, r122, b122, rfl, hb122, hi122⟩ := sr_isThing (d + 3) n (c := x) (K := w 0 2) g121 (by first | decide | omega) ((e121 389 2 (by first | decide | omega)).trans ((hR.1 2 (by first | decide | omega)))) (by first | decide | omega)
  refine gx_call1 rfl rfl g121 rfl rfl r122 rfl ?_
  show en_ex _ _ _ _ (10, [(0, gx_r 383), (1, .inl x), (2, .inl y)], [.inl b122], t121, n, 0) _
  by_cases hc23 : b122 = 0
  · refine gx_1t (c := .eq) rfl (by first | decide | omega) hc23 rfl ?_
    refine ex_go (S := (37, [(0, gx_r 383), (1, .inl x), (2, .inl y)], [.inl 4294967295], t121, n, 0)) rfl (fun _ => rfl) rfl ?_
    refine ex_go (S := (38, [(3, .inl 4294967295), (0, gx_r 383), (1, .inl x), (2, .inl y)], [], t121, n, 0)) rfl (fun _ => rfl) rfl ?_
    refine ex_go (S := (39, [(3, .inl 4294967295), (0, gx_r 383), (1, .inl x), (2, .inl y)], [.inl 4294967295], t121, n, 0)) rfl (fun _ => rfl) rfl ?_
    refine ex_go (S := (41, [(4, .inl 4294967295), (3, .inl 4294967295), (0, gx_r 383), (1, .inl x), (2, .inl y)], [], t121, n, 0)) rfl (fun _ => rfl) rfl ?_
    refine ex_go (S := (42, [(4, .inl 4294967295), (3, .inl 4294967295), (0, gx_r 383), (1, .inl x), (2, .inl y)], [.inl 0], t121, n, 0)) rfl (fun _ => rfl) rfl ?_
    refine ex_go (S := (44, [(5, .inl 0), (4, .inl 4294967295), (3, .inl 4294967295), (0, gx_r 383), (1, .inl x), (2, .inl y)], [], t121, n, 0)) rfl (fun _ => rfl) rfl ?_
    refine ex_go (S := (46, [(5, .inl 0), (4, .inl 4294967295), (3, .inl 4294967295), (0, gx_r 383), (1, .inl x), (2, .inl y)], [.inl 0], t121, n, 0)) rfl (fun _ => rfl) rfl ?_
    refine ex_go (S := (48, [(5, .inl 0), (4, .inl 4294967295), (3, .inl 4294967295), (0, gx_r 383), (1, .inl x), (2, .inl y)], [.inl 60, .inl 0], t121, n, 0)) rfl (fun _ => rfl) rfl ?_
    refine ex_go (S := (51, [(5, .inl 0), (4, .inl 4294967295), (3, .inl 4294967295), (0, gx_r 383), (1, .inl x), (2, .inl y)], [], t121, n, 0)) rfl (fun _ => rfl) rfl ?_
    refine ex_go (S := (52, [(5, .inl 0), (4, .inl 4294967295), (3, .inl 4294967295), (0, gx_r 383), (1, .inl x), (2, .inl y)], [.inl 4294967295], t121, n, 0)) rfl (fun _ => rfl) rfl ?_
    refine ex_go (S := (91, [(5, .inl 0), (4, .inl 4294967295), (3, .inl 4294967295), (0, gx_r 383), (1, .inl x), (2, .inl y)], [], t121, n, 0)) rfl (fun _ => rfl) rfl ?_
    refine ex_go (S := (93, [(5, .inl 0), (4, .inl 4294967295), (3, .inl 4294967295), (0, gx_r 383), (1, .inl x), (2, .inl y)], [.inl 4294967295], t121, n, 0)) rfl (fun _ => rfl) rfl ?_
    refine ex_ret (r := (some (.inl 4294967295), t121, n, 0)) rfl (fun _ => rfl) ?_
    exact ⟨_, rfl, _, _, rfl, (fun c9 => by omega), (fun _ => rfl)⟩
  · refine gx_1f (c := .eq) rfl (by first | decide | omega) hc23 rfl ?_
    refine ex_go (S := (14, [(0, gx_r 383), (1, .inl x), (2, .inl y)], [gx_r 383], t121, n, 0)) rfl (fun _ => rfl) rfl ?_
    refine ex_go (S := (15, [(0, gx_r 383), (1, .inl x), (2, .inl y)], [.inl y, gx_r 383], t121, n, 0)) rfl (fun _ => rfl) rfl ?_
    obtain ⟨_, r124, b124, rfl, hb124, hi124⟩ := sr_isThing (d + 3) n (c := y) (K := w 0 2) g121 (by first | decide | omega) ((e121 389 2 (by first | decide | omega)).trans ((hR.1 2 (by first | decide | omega)))) (by first | decide | omega)
    refine gx_call1 rfl rfl g121 rfl rfl r124 rfl ?_
    show en_ex _ _ _ _ (18, [(0, gx_r 383), (1, .inl x), (2, .inl y)], [.inl b124], t121, n, 0) _
    by_cases hc25 : b124 = 0
    · refine gx_1t (c := .eq) rfl (by first | decide | omega) hc25 rfl ?_
      refine ex_go (S := (37, [(0, gx_r 383), (1, .inl x), (2, .inl y)], [.inl 4294967295], t121, n, 0)) rfl (fun _ => rfl) rfl ?_
      refine ex_go (S := (38, [(3, .inl 4294967295), (0, gx_r 383), (1, .inl x), (2, .inl y)], [], t121, n, 0)) rfl (fun _ => rfl) rfl ?_
      refine ex_go (S := (39, [(3, .inl 4294967295), (0, gx_r 383), (1, .inl x), (2, .inl y)], [.inl 4294967295], t121, n, 0)) rfl (fun _ => rfl) rfl ?_
      refine ex_go (S := (41, [(4, .inl 4294967295), (3, .inl 4294967295), (0, gx_r 383), (1, .inl x), (2, .inl y)], [], t121, n, 0)) rfl (fun _ => rfl) rfl ?_
      refine ex_go (S := (42, [(4, .inl 4294967295), (3, .inl 4294967295), (0, gx_r 383), (1, .inl x), (2, .inl y)], [.inl 0], t121, n, 0)) rfl (fun _ => rfl) rfl ?_
      refine ex_go (S := (44, [(5, .inl 0), (4, .inl 4294967295), (3, .inl 4294967295), (0, gx_r 383), (1, .inl x), (2, .inl y)], [], t121, n, 0)) rfl (fun _ => rfl) rfl ?_
      refine ex_go (S := (46, [(5, .inl 0), (4, .inl 4294967295), (3, .inl 4294967295), (0, gx_r 383), (1, .inl x), (2, .inl y)], [.inl 0], t121, n, 0)) rfl (fun _ => rfl) rfl ?_
      refine ex_go (S := (48, [(5, .inl 0), (4, .inl 4294967295), (3, .inl 4294967295), (0, gx_r 383), (1, .inl x), (2, .inl y)], [.inl 60, .inl 0], t121, n, 0)) rfl (fun _ => rfl) rfl ?_
      refine ex_go (S := (51, [(5, .inl 0), (4, .inl 4294967295), (3, .inl 4294967295), (0, gx_r 383), (1, .inl x), (2, .inl y)], [], t121, n, 0)) rfl (fun _ => rfl) rfl ?_
      refine ex_go (S := (52, [(5, .inl 0), (4, .inl 4294967295), (3, .inl 4294967295), (0, gx_r 383), (1, .inl x), (2, .inl y)], [.inl 4294967295], t121, n, 0)) rfl (fun _ => rfl) rfl ?_
      refine ex_go (S := (91, [(5, .inl 0), (4, .inl 4294967295), (3, .inl 4294967295), (0, gx_r 383), (1, .inl x), (2, .inl y)], [], t121, n, 0)) rfl (fun _ => rfl) rfl ?_
      refine ex_go (S := (93, [(5, .inl 0), (4, .inl 4294967295), (3, .inl 4294967295), (0, gx_r 383), (1, .inl x), (2, .inl y)], [.inl 4294967295], t121, n, 0)) rfl (fun _ => rfl) rfl ?_
      refine ex_ret (r := (some (.inl 4294967295), t121, n, 0)) rfl (fun _ => rfl) ?_
      exact ⟨_, rfl, _, _, rfl, (fun c9 => by omega), (fun _ => rfl)⟩
    · refine gx_1f (c := .eq) rfl (by first | decide | omega) hc25 rfl ?_
      refine ex_go (S := (22, [(0, gx_r 383), (1, .inl x), (2, .inl y)], [.inl x], t121, n, 0)) rfl (fun _ => rfl) rfl ?_
      refine ex_go (S := (23, [(0, gx_r 383), (1, .inl x), (2, .inl y)], [.inl y, .inl x], t121, n, 0)) rfl (fun _ => rfl) rfl ?_
      by_cases hc26 : x = y
      · refine gx_2t (c := .eq) rfl (by first | decide | omega) (by first | decide | omega) hc26 rfl ?_
        refine ex_go (S := (37, [(0, gx_r 383), (1, .inl x), (2, .inl y)], [.inl 4294967295], t121, n, 0)) rfl (fun _ => rfl) rfl ?_
        refine ex_go (S := (38, [(3, .inl 4294967295), (0, gx_r 383), (1, .inl x), (2, .inl y)], [], t121, n, 0)) rfl (fun _ => rfl) rfl ?_
        refine ex_go (S := (39, [(3, .inl 4294967295), (0, gx_r 383), (1, .inl x), (2, .inl y)], [.inl 4294967295], t121, n, 0)) rfl (fun _ => rfl) rfl ?_
        refine ex_go (S := (41, [(4, .inl 4294967295), (3, .inl 4294967295), (0, gx_r 383), (1, .inl x), (2, .inl y)], [], t121, n, 0)) rfl (fun _ => rfl) rfl ?_
        refine ex_go (S := (42, [(4, .inl 4294967295), (3, .inl 4294967295), (0, gx_r 383), (1, .inl x), (2, .inl y)], [.inl 0], t121, n, 0)) rfl (fun _ => rfl) rfl ?_
        refine ex_go (S := (44, [(5, .inl 0), (4, .inl 4294967295), (3, .inl 4294967295), (0, gx_r 383), (1, .inl x), (2, .inl y)], [], t121, n, 0)) rfl (fun _ => rfl) rfl ?_
        refine ex_go (S := (46, [(5, .inl 0), (4, .inl 4294967295), (3, .inl 4294967295), (0, gx_r 383), (1, .inl x), (2, .inl y)], [.inl 0], t121, n, 0)) rfl (fun _ => rfl) rfl ?_
        refine ex_go (S := (48, [(5, .inl 0), (4, .inl 4294967295), (3, .inl 4294967295), (0, gx_r 383), (1, .inl x), (2, .inl y)], [.inl 60, .inl 0], t121, n, 0)) rfl (fun _ => rfl) rfl ?_
        refine ex_go (S := (51, [(5, .inl 0), (4, .inl 4294967295), (3, .inl 4294967295), (0, gx_r 383), (1, .inl x), (2, .inl y)], [], t121, n, 0)) rfl (fun _ => rfl) rfl ?_
        refine ex_go (S := (52, [(5, .inl 0), (4, .inl 4294967295), (3, .inl 4294967295), (0, gx_r 383), (1, .inl x), (2, .inl y)], [.inl 4294967295], t121, n, 0)) rfl (fun _ => rfl) rfl ?_
        refine ex_go (S := (91, [(5, .inl 0), (4, .inl 4294967295), (3, .inl 4294967295), (0, gx_r 383), (1, .inl x), (2, .inl y)], [], t121, n, 0)) rfl (fun _ => rfl) rfl ?_
        refine ex_go (S := (93, [(5, .inl 0), (4, .inl 4294967295), (3, .inl 4294967295), (0, gx_r 383), (1, .inl x), (2, .inl y)], [.inl 4294967295], t121, n, 0)) rfl (fun _ => rfl) rfl ?_
        refine ex_ret (r := (some (.inl 4294967295), t121, n, 0)) rfl (fun _ => rfl) ?_
        exact ⟨_, rfl, _, _, rfl, (fun c9 => by omega), (fun _ => rfl)⟩
      · refine gx_2f (c := .eq) rfl (by first | decide | omega) (by first | decide | omega) hc26 rfl ?_
        refine ex_go (S := (27, [(0, gx_r 383), (1, .inl x), (2, .inl y)], [gx_r 383], t121, n, 0)) rfl (fun _ => rfl) rfl ?_
        refine ex_go (S := (28, [(0, gx_r 383), (1, .inl x), (2, .inl y)], [.inl x, gx_r 383], t121, n, 0)) rfl (fun _ => rfl) rfl ?_
        refine ex_go (S := (29, [(0, gx_r 383), (1, .inl x), (2, .inl y)], [.inl y, .inl x, gx_r 383], t121, n, 0)) rfl (fun _ => rfl) rfl ?_
        refine ex_go (S := (30, [(0, gx_r 383), (1, .inl x), (2, .inl y)], [.inl 0, .inl y, .inl x, gx_r 383], t121, n, 0)) rfl (fun _ => rfl) rfl ?_
        have hx9 : x < w 0 2 := by omega
        have hy9 : y < w 0 2 := by omega
        obtain ⟨_, r127, t127, rfl, g127, e127⟩ := sr_reachOf d n (σ := σ) (a := x) (b := y) (s := 0) g121 (RW_keep hR (fun i hi => e121 389 i (by first | decide | omega)) (fun c i hc _ => e121 c i (by first | decide | omega))) (blk_keep hS (fun j hj => e121 399 _ (by first | decide | omega))) hB hz9 hx9 hy9 (by decide)
        rw [show snR w σ x y (121 - 0) 0 = fs from efs] at r127
        refine gx_call1 rfl rfl g121 rfl rfl r127 rfl ?_
        have k28 : ai_hv t127 383 0 = some (.inl 0) := (e127 383 0 (by first | decide | omega)).trans k121
        show en_ex _ _ _ _ (33, [(0, gx_r 383), (1, .inl x), (2, .inl y)], [.inl fs], t127, n, 0) _
        rcases hfl with rfl | hfl
        · show en_ex _ _ _ _ (33, [(0, gx_r 383), (1, .inl x), (2, .inl y)], [.inl 4294967295], t127, n, 0) _
          refine ex_go (S := (37, [(0, gx_r 383), (1, .inl x), (2, .inl y)], [.inl 4294967295], t127, n, 0)) rfl (fun _ => rfl) rfl ?_
          refine ex_go (S := (38, [(3, .inl 4294967295), (0, gx_r 383), (1, .inl x), (2, .inl y)], [], t127, n, 0)) rfl (fun _ => rfl) rfl ?_
          refine ex_go (S := (39, [(3, .inl 4294967295), (0, gx_r 383), (1, .inl x), (2, .inl y)], [.inl 4294967295], t127, n, 0)) rfl (fun _ => rfl) rfl ?_
          refine ex_go (S := (41, [(4, .inl 4294967295), (3, .inl 4294967295), (0, gx_r 383), (1, .inl x), (2, .inl y)], [], t127, n, 0)) rfl (fun _ => rfl) rfl ?_
          refine ex_go (S := (42, [(4, .inl 4294967295), (3, .inl 4294967295), (0, gx_r 383), (1, .inl x), (2, .inl y)], [.inl 0], t127, n, 0)) rfl (fun _ => rfl) rfl ?_
          refine ex_go (S := (44, [(5, .inl 0), (4, .inl 4294967295), (3, .inl 4294967295), (0, gx_r 383), (1, .inl x), (2, .inl y)], [], t127, n, 0)) rfl (fun _ => rfl) rfl ?_
          refine ex_go (S := (46, [(5, .inl 0), (4, .inl 4294967295), (3, .inl 4294967295), (0, gx_r 383), (1, .inl x), (2, .inl y)], [.inl 0], t127, n, 0)) rfl (fun _ => rfl) rfl ?_
          refine ex_go (S := (48, [(5, .inl 0), (4, .inl 4294967295), (3, .inl 4294967295), (0, gx_r 383), (1, .inl x), (2, .inl y)], [.inl 60, .inl 0], t127, n, 0)) rfl (fun _ => rfl) rfl ?_
          refine ex_go (S := (51, [(5, .inl 0), (4, .inl 4294967295), (3, .inl 4294967295), (0, gx_r 383), (1, .inl x), (2, .inl y)], [], t127, n, 0)) rfl (fun _ => rfl) rfl ?_
          refine ex_go (S := (52, [(5, .inl 0), (4, .inl 4294967295), (3, .inl 4294967295), (0, gx_r 383), (1, .inl x), (2, .inl y)], [.inl 4294967295], t127, n, 0)) rfl (fun _ => rfl) rfl ?_
          refine ex_go (S := (91, [(5, .inl 0), (4, .inl 4294967295), (3, .inl 4294967295), (0, gx_r 383), (1, .inl x), (2, .inl y)], [], t127, n, 0)) rfl (fun _ => rfl) rfl ?_
          refine ex_go (S := (93, [(5, .inl 0), (4, .inl 4294967295), (3, .inl 4294967295), (0, gx_r 383), (1, .inl x), (2, .inl y)], [.inl 4294967295], t127, n, 0)) rfl (fun _ => rfl) rfl ?_
          refine ex_ret (r := (some (.inl 4294967295), t127, n, 0)) rfl (fun _ => rfl) ?_
          exact ⟨_, rfl, _, _, rfl, (fun _ => (sto_n efs).symm), (fun _ => rfl)⟩
        · show en_ex _ _ _ _ (33, [(0, gx_r 383), (1, .inl x), (2, .inl y)], [.inl fs], t127, n, 0) _
          refine ex_go (S := (37, [(0, gx_r 383), (1, .inl x), (2, .inl y)], [.inl fs], t127, n, 0)) rfl (fun _ => rfl) rfl ?_
          refine ex_go (S := (38, [(3, .inl fs), (0, gx_r 383), (1, .inl x), (2, .inl y)], [], t127, n, 0)) rfl (fun _ => rfl) rfl ?_
          refine ex_go (S := (39, [(3, .inl fs), (0, gx_r 383), (1, .inl x), (2, .inl y)], [.inl 4294967295], t127, n, 0)) rfl (fun _ => rfl) rfl ?_
          refine ex_go (S := (41, [(4, .inl 4294967295), (3, .inl fs), (0, gx_r 383), (1, .inl x), (2, .inl y)], [], t127, n, 0)) rfl (fun _ => rfl) rfl ?_
          refine ex_go (S := (42, [(4, .inl 4294967295), (3, .inl fs), (0, gx_r 383), (1, .inl x), (2, .inl y)], [.inl 0], t127, n, 0)) rfl (fun _ => rfl) rfl ?_
          refine ex_go (S := (44, [(5, .inl 0), (4, .inl 4294967295), (3, .inl fs), (0, gx_r 383), (1, .inl x), (2, .inl y)], [], t127, n, 0)) rfl (fun _ => rfl) rfl ?_
          exact ro_s d n (tb := t127) (x := x) (y := y) (fs := fs) (v0 := bst (fun k => snR w σ x y (121 - k) k) fs 61) (RW_keep hR (fun i hi => (e127 389 i (by first | decide | omega)).trans (e121 389 i (by first | decide | omega))) (fun c i hc _ => (e127 c i (by first | decide | omega)).trans (e121 c i (by first | decide | omega)))) (blk_keep hS (fun j hj => (e127 399 _ (by first | decide | omega)).trans (e121 399 _ (by first | decide | omega)))) hB hz9 hx9 hy9 hfl rfl (fun t1 => ⟨_, rfl, _, _, rfl, (fun _ => (sto_y efs hfl).symm), (fun c9 => absurd ⟨hx9, hy9, by omega⟩ c9)⟩) 61 0 _ _ rfl g127 (fun _ _ _ => rfl) rfl rfl rfl rfl rfl rfl
theorem zs_setout191 {n B x y : Nat} {t : en_H} (g0 : ai_HG ah_G t) (hP : SPXk 191 t) (hZ : ZS B t) (hB : B ≤ 900000) (hx : x < 4294967296) (hy : y < 4294967296) : zs_A 60 61 [gx_r 0, .inl x, .inl y] [gx_r 383, .inl x, .inl y] t n := by
  obtain ⟨k10, w, L, hR, hC, hX, -, -⟩ := hP
  obtain ⟨T, K, σ, u, τ, F, μ, q, v, ⟨hT, hK⟩, hS, hS', hB5, -, -, -, O, D, ⟨hO, hD⟩, hG⟩ := hZ
  have eT := wv_one hT (hR.1 2 (by decide))
  have eK := wv_one hK (hR.1 4 (by decide))
  have eO := wv_one hO (hR.1 0 (by decide))
  have eD := wv_one hD (hR.1 1 (by decide))
  subst eT eK eO eD
  have hw := WS_of hR
  have hT6 := hw.1.2.2.1
  have hσ := hB5.2.1
  have hb := zs_sbd g0 hS.1
  have hz9 : ∀ i, i < w 0 2 → σ (1 + i) < 64 ∧ inG (w 0 0) (w 0 1) (σ (1 + i)) = true := fun i hi => ⟨Nat.lt_succ_of_le (hb.1 i (by first | decide | omega)), hG.1 i hi⟩
  obtain ⟨_, r1, z1, rfl, a1, a2⟩ := sc_setout191 55 n g0 hC hw hX k10 (fun q hq => (hR.2.2.1 q hq).2) hS'.1 (by first | decide | omega) hz9 hx hy
  obtain ⟨_, r2, z2, t2, rfl, b1, b2⟩ := sr_setout 54 n g0 hR hS.1 (by first | decide | omega) (fun i hi => (hz9 i hi).1) hx hy
  have e : z2 = z1 := by
    by_cases c : x < w 0 2 ∧ y < w 0 2 ∧ ¬ x = y
    · rw [a1 c, b1 c]
    · rw [a2 c, b2 c]
  subst e
  exact ⟨_, _, _, r1, r2⟩
theorem zs_setout257 {n B x y : Nat} {t : en_H} (g0 : ai_HG ah_G t) (hP : SPXk 257 t) (hZ : ZS B t) (hB : B ≤ 900000) (hx : x < 4294967296) (hy : y < 4294967296) : zs_A 60 61 [gx_r 0, .inl x, .inl y] [gx_r 383, .inl x, .inl y] t n := by
  obtain ⟨k10, w, L, hR, hC, hX, -, -⟩ := hP
  obtain ⟨T, K, σ, u, τ, F, μ, q, v, ⟨hT, hK⟩, hS, hS', hB5, -, -, -, O, D, ⟨hO, hD⟩, hG⟩ := hZ
  have eT := wv_one hT (hR.1 2 (by decide))
  have eK := wv_one hK (hR.1 4 (by decide))
  have eO := wv_one hO (hR.1 0 (by decide))
  have eD := wv_one hD (hR.1 1 (by decide))
  subst eT eK eO eD
  have hw := WS_of hR
  have hT6 := hw.1.2.2.1
  have hσ := hB5.2.1
  have hb := zs_sbd g0 hS.1
  have hz9 : ∀ i, i < w 0 2 → σ (1 + i) < 64 ∧ inG (w 0 0) (w 0 1) (σ (1 + i)) = true := fun i hi => ⟨Nat.lt_succ_of_le (hb.1 i (by first | decide | omega)), hG.1 i hi⟩
  obtain ⟨_, r1, z1, rfl, a1, a2⟩ := sc_setout257 55 n g0 hC hw hX k10 (fun q hq => (hR.2.2.1 q hq).2) hS'.1 (by first | decide | omega) hz9 hx hy
  obtain ⟨_, r2, z2, t2, rfl, b1, b2⟩ := sr_setout 54 n g0 hR hS.1 (by first | decide | omega) (fun i hi => (hz9 i hi).1) hx hy
  have e : z2 = z1 := by
    by_cases c : x < w 0 2 ∧ y < w 0 2 ∧ ¬ x = y
    · rw [a1 c, b1 c]
    · rw [a2 c, b2 c]
  subst e
  exact ⟨_, _, _, r1, r2⟩
end SSY
