section SSI
noncomputable def bv (b : Bool) : Nat := if b = true then 1 else 0
theorem bv_le {b : Bool} : bv b ≤ 1 := by unfold bv; split <;> omega
theorem bv_t {b : Bool} (h : b = true) : bv b = 1 := if_pos h
theorem bv_f {b : Bool} (h : b = false) : bv b = 0 := by rw [h]; rfl
theorem bv_0 {b : Bool} (h : bv b = 0) : b = false := by cases b; rfl; exact absurd h (by decide)
theorem bv_1 {b : Bool} (h : ¬ bv b = 0) : b = true := by cases b; exact absurd rfl h; rfl
/-- one of the first i places beside k is q -/
noncomputable def hsd (w : Nat → Nat → Nat) (k q : Nat) : Nat → Bool
  | 0 => false
  | i + 1 => hsd w k q i || decide (nb (w 0 0) (w 0 1) k i = q)
/-- q is beside one of the first k places of H -/
noncomputable def hin (w : Nat → Nat → Nat) (H : Nat → Bool) (q : Nat) : Nat → Bool
  | 0 => false
  | k + 1 => hin w H q k || (H k && hsd w k q 4)
noncomputable def hst (w : Nat → Nat → Nat) (s : Nat) (H : Nat → Bool) (q : Nat) : Bool := H q || (hin w H q 64 && !opn w s q)
noncomputable def hit (w : Nat → Nat → Nat) (s : Nat) : Nat → (Nat → Bool) → Nat → Bool
  | 0, H => H
  | k + 1, H => hst w s (hit w s k H)
noncomputable def HB (t : en_H) (c : Nat) (H : Nat → Bool) : Prop := ∀ q, q < 64 → ai_hv t c q = some (.inl (bv (H q)))
theorem hin_congr {w : Nat → Nat → Nat} {H H' : Nat → Bool} {q : Nat} : ∀ {k : Nat}, (∀ p, p < k → H p = H' p) → hin w H q k = hin w H' q k
  | 0, _ => rfl
  | k + 1, h => by
    show (hin w H q k || (H k && hsd w k q 4)) = (hin w H' q k || (H' k && hsd w k q 4))
    rw [hin_congr (fun p hp => h p (by first | decide | omega)), h k (by first | decide | omega)]
theorem hst_congr {w : Nat → Nat → Nat} {s : Nat} {H H' : Nat → Bool} (h : ∀ q, q < 64 → H q = H' q) {q : Nat} (hq : q < 64) : hst w s H q = hst w s H' q := by
  unfold hst
  rw [hin_congr h, h q hq]
theorem sr_clh_l (d n : Nat) {tb : en_H} {a : Nat} {Q : en_O → Prop} (ha : a < 64) (hQ : ∀ cl t1, ai_HG ah_G t1 → (∀ c i, ¬ c = 401 → ai_hv t1 c i = ai_hv tb c i) → (∀ q, q < 64 → ai_hv t1 401 q = some (.inl (bv (decide (q = a))))) → en_ex none (en_u d) (en_code 198) (fun _ => false) (30, cl, [], t1, n, 0) Q) : ∀ j k cl t0, k + j = 64 → ai_HG ah_G t0 → (∀ c i, ¬ c = 401 → ai_hv t0 c i = ai_hv tb c i) → (∀ q, q < k → ai_hv t0 401 q = some (.inl (bv (decide (q = a))))) → en_ld cl 0 = some (gx_r 383) → en_ld cl 1 = some (.inl a) → en_ld cl 2 = some (.inl k) → en_ex none (en_u d) (en_code 198) (fun _ => false) (2, cl, [], t0, n, 0) Q := by
  intro j
  induction j with
  | zero =>
    intro k cl t0 hk g0 e0 i0 l0 l1 l2
    have hk : k = 64 := by omega
    subst hk
    refine gx_ld (i := 2) (d := 0) (v := .inl 64) rfl (fun _ => rfl) l2 rfl rfl ?_
    refine ex_go (S := (5, cl, [.inl 64, .inl 64], t0, n, 0)) rfl (fun _ => rfl) rfl ?_
    refine ex_go (S := (30, cl, [], t0, n, 0)) rfl (fun _ => rfl) rfl ?_
    exact hQ _ t0 g0 e0 i0
  | succ j ih =>
    intro k cl t0 hk g0 e0 i0 l0 l1 l2
    refine gx_ld (i := 2) (d := 0) (v := .inl k) rfl (fun _ => rfl) l2 rfl rfl ?_
    refine ex_go (S := (5, cl, [.inl 64, .inl k], t0, n, 0)) rfl (fun _ => rfl) rfl ?_
    refine gx_2f (c := .ge) rfl (by first | decide | omega) (by first | decide | omega) (show ¬ (64 ≤ k) from by omega) rfl ?_
    refine gx_ld (i := 0) (d := 2) (v := gx_r 383) rfl (fun _ => rfl) l0 rfl rfl ?_
    refine gx_ref (c := 401) rfl g0 rfl rfl rfl rfl ?_
    refine gx_ld (i := 2) (d := 0) (v := .inl k) rfl (fun _ => rfl) l2 rfl rfl ?_
    refine gx_ld (i := 2) (d := 0) (v := .inl k) rfl (fun _ => rfl) l2 rfl rfl ?_
    refine gx_ld (i := 1) (d := 0) (v := .inl a) rfl (fun _ => rfl) l1 rfl rfl ?_
    by_cases hc21 : k ≠ a
    · refine gx_2t (c := .ne) rfl (by first | decide | omega) (by first | decide | omega) hc21 rfl ?_
      refine ex_go (S := (23, cl, [.inl 0, .inl k, gx_r 401], t0, n, 0)) rfl (fun _ => rfl) rfl ?_
      refine gx_apv (d := 2) rfl (fun _ => rfl) g0 rfl rfl (st_fit (by first | decide | omega)) (show k < 64 from by omega) (gx_run1 (show k < 64 from by omega)) (ai_in_h (by first | decide | omega) (by first | decide | omega) (by first | decide | omega)) rfl (fun t122 g122 k122 e122 => ?_)
      refine gx_incS (i := 2) (a := k) (x := 1) rfl (fun _ => rfl) l2 (by first | decide | omega) rfl (fun l23 hl23 ml23 => ?_)
      have l23_0 : en_ld l23 0 = some (gx_r 383) := ml23 0 _ l0 rfl
      have l23_1 : en_ld l23 1 = some (.inl a) := ml23 1 _ l1 rfl
      refine ex_go (S := (2, l23, [], t122, n, 0)) rfl (fun _ => rfl) rfl ?_
      have hv9 : bv (decide (k = a)) = 0 := by unfold bv; simp only [decide_eq_true_eq]; rw [if_neg (by first | decide | omega)]
      refine ih (k + 1) _ t122 (by first | decide | omega) g122 (fun c i h => (e122 c i (by first | decide | omega)).trans (e0 c i h)) (fun q hq => ?_) l23_0 l23_1 hl23
      by_cases e9 : q = k
      · subst e9; rw [hv9]; exact k122
      · exact (e122 401 q (by first | decide | omega)).trans (i0 q (by first | decide | omega))
    · refine gx_2f (c := .ne) rfl (by first | decide | omega) (by first | decide | omega) hc21 rfl ?_
      refine ex_go (S := (19, cl, [.inl 1, .inl k, gx_r 401], t0, n, 0)) rfl (fun _ => rfl) rfl ?_
      refine ex_go (S := (23, cl, [.inl 1, .inl k, gx_r 401], t0, n, 0)) rfl (fun _ => rfl) rfl ?_
      refine gx_apv (d := 2) rfl (fun _ => rfl) g0 rfl rfl (st_fit (by first | decide | omega)) (show k < 64 from by omega) (gx_run1 (show k < 64 from by omega)) (ai_in_h (by first | decide | omega) (by first | decide | omega) (by first | decide | omega)) rfl (fun t124 g124 k124 e124 => ?_)
      refine gx_incS (i := 2) (a := k) (x := 1) rfl (fun _ => rfl) l2 (by first | decide | omega) rfl (fun l25 hl25 ml25 => ?_)
      have l25_0 : en_ld l25 0 = some (gx_r 383) := ml25 0 _ l0 rfl
      have l25_1 : en_ld l25 1 = some (.inl a) := ml25 1 _ l1 rfl
      refine ex_go (S := (2, l25, [], t124, n, 0)) rfl (fun _ => rfl) rfl ?_
      have hv9 : bv (decide (k = a)) = 1 := by unfold bv; simp only [decide_eq_true_eq]; rw [if_pos (by first | decide | omega)]
      refine ih (k + 1) _ t124 (by first | decide | omega) g124 (fun c i h => (e124 c i (by first | decide | omega)).trans (e0 c i h)) (fun q hq => ?_) l25_0 l25_1 hl25
      by_cases e9 : q = k
      · subst e9; rw [hv9]; exact k124
      · exact (e124 401 q (by first | decide | omega)).trans (i0 q (by first | decide | omega))
theorem sr_clearsHere (d n : Nat) {t0 : en_H} {a : Nat} (g0 : ai_HG ah_G t0) (ha : a < 64) : ∃ r, en_u (d + 1) 198 [gx_r 383, .inl a] t0 n = some r ∧ ∃ t', r = (none, t', n, 0) ∧ ai_HG ah_G t' ∧ (∀ c i, ¬ c = 401 → ai_hv t' c i = ai_hv t0 c i) ∧ HB t' 401 (fun q => decide (q = a)) := by
  refine en_u_ex rfl ?_
  show en_ex _ _ _ _ (0, [(0, gx_r 383), (1, .inl a)], [], t0, n, 0) _
  refine ex_go (S := (1, [(0, gx_r 383), (1, .inl a)], [.inl 0], t0, n, 0)) rfl (fun _ => rfl) rfl ?_
  refine ex_go (S := (2, [(2, .inl 0), (0, gx_r 383), (1, .inl a)], [], t0, n, 0)) rfl (fun _ => rfl) rfl ?_
  refine sr_clh_l d n (tb := t0) ha (fun cl t1 g1 e1 i1 => ?_) 64 0 _ _ rfl g0 (fun _ _ _ => rfl) (fun q hq => absurd hq (Nat.not_lt_zero q)) rfl rfl rfl
  refine ex_ret (r := (none, t1, n, 0)) rfl (fun _ => rfl) ?_
  exact ⟨_, rfl, t1, rfl, g1, e1, i1⟩
theorem sr_hcp1 (d n : Nat) {tb : en_H} {H : Nat → Bool} {s m : Nat} {Q : en_O → Prop} (hH : HB tb 401 H) (hQ : ∀ cl t1, ai_HG ah_G t1 → (∀ c i, ¬ c = 402 → ai_hv t1 c i = ai_hv tb c i) → HB t1 402 H → en_ld cl 0 = some (gx_r 383) → en_ld cl 1 = some (.inl s) → en_ld cl 2 = some (.inl m) → en_ex none (en_u (d + 2)) (en_code 199) (fun _ => false) (38, cl, [], t1, n, 0) Q) : ∀ j k cl t0, k + j = 64 → ai_HG ah_G t0 → (∀ c i, ¬ c = 402 → ai_hv t0 c i = ai_hv tb c i) → (∀ q, q < k → ai_hv t0 402 q = some (.inl (bv (H q)))) → en_ld cl 0 = some (gx_r 383) → en_ld cl 1 = some (.inl s) → en_ld cl 2 = some (.inl m) → en_ld cl 3 = some (.inl k) → en_ex none (en_u (d + 2)) (en_code 199) (fun _ => false) (14, cl, [], t0, n, 0) Q := by
  intro j
  induction j with
  | zero =>
    intro k cl t0 hk g0 e0 i0 l0 l1 l2 l3
    have hk : k = 64 := by omega
    subst hk
    refine gx_ld (i := 3) (d := 0) (v := .inl 64) rfl (fun _ => rfl) l3 rfl rfl ?_
    refine ex_go (S := (17, cl, [.inl 64, .inl 64], t0, n, 0)) rfl (fun _ => rfl) rfl ?_
    refine ex_go (S := (38, cl, [], t0, n, 0)) rfl (fun _ => rfl) rfl ?_
    exact hQ _ t0 g0 e0 i0 l0 l1 l2
  | succ j ih =>
    intro k cl t0 hk g0 e0 i0 l0 l1 l2 l3
    have ks := (e0 401 k (by first | decide | omega)).trans (hH k (by first | decide | omega))
    have hb := bv_le (b := H k)
    refine gx_ld (i := 3) (d := 0) (v := .inl k) rfl (fun _ => rfl) l3 rfl rfl ?_
    refine ex_go (S := (17, cl, [.inl 64, .inl k], t0, n, 0)) rfl (fun _ => rfl) rfl ?_
    refine gx_2f (c := .ge) rfl (by first | decide | omega) (by first | decide | omega) (show ¬ (64 ≤ k) from by omega) rfl ?_
    refine gx_ld (i := 0) (d := 2) (v := gx_r 383) rfl (fun _ => rfl) l0 rfl rfl ?_
    refine gx_ref (c := 402) rfl g0 rfl rfl rfl rfl ?_
    refine gx_ld (i := 3) (d := 0) (v := .inl k) rfl (fun _ => rfl) l3 rfl rfl ?_
    refine gx_ld (i := 0) (d := 2) (v := gx_r 383) rfl (fun _ => rfl) l0 rfl rfl ?_
    refine gx_ref (c := 401) rfl g0 rfl rfl rfl rfl ?_
    refine gx_ld (i := 3) (d := 0) (v := .inl k) rfl (fun _ => rfl) l3 rfl rfl ?_
    refine gx_ag (v := .inl (bv (H k))) (cb := fun c => Nat.beq c 2 || Nat.beq c 1) rfl (fun _ => rfl) g0 rfl rfl ks (by first | decide | omega) rfl ?_
    refine gx_apv (d := 2) rfl (fun _ => rfl) g0 rfl rfl (st_fit (by first | decide | omega)) (show k < 64 from by omega) (gx_run1 (show k < 64 from by omega)) (ai_in_h (by first | decide | omega) (by first | decide | omega) (by first | decide | omega)) rfl (fun t121 g121 k121 e121 => ?_)
    have k22 : ai_hv t121 401 k = some (.inl (bv (H k))) := (e121 401 k (by first | decide | omega)).trans ks
    refine gx_incS (i := 3) (a := k) (x := 1) rfl (fun _ => rfl) l3 (by first | decide | omega) rfl (fun l23 hl23 ml23 => ?_)
    have l23_0 : en_ld l23 0 = some (gx_r 383) := ml23 0 _ l0 rfl
    have l23_1 : en_ld l23 1 = some (.inl s) := ml23 1 _ l1 rfl
    have l23_2 : en_ld l23 2 = some (.inl m) := ml23 2 _ l2 rfl
    refine ex_go (S := (14, l23, [], t121, n, 0)) rfl (fun _ => rfl) rfl ?_
    refine ih (k + 1) _ t121 (by first | decide | omega) g121 (fun c i h => (e121 c i (by first | decide | omega)).trans (e0 c i h)) (fun q hq => ?_) l23_0 l23_1 l23_2 hl23
    by_cases e9 : q = k
    · subst e9; exact k121
    · exact (e121 402 q (by first | decide | omega)).trans (i0 q (by first | decide | omega))
theorem sr_hcp2 (d n : Nat) {tb : en_H} {H : Nat → Bool} {s m : Nat} {Q : en_O → Prop} (hH : HB tb 402 H) (hQ : ∀ cl t1, ai_HG ah_G t1 → (∀ c i, ¬ c = 401 → ai_hv t1 c i = ai_hv tb c i) → HB t1 401 H → en_ld cl 0 = some (gx_r 383) → en_ld cl 1 = some (.inl s) → en_ld cl 2 = some (.inl m) → en_ex none (en_u (d + 2)) (en_code 199) (fun _ => false) (143, cl, [], t1, n, 0) Q) : ∀ j k cl t0, k + j = 64 → ai_HG ah_G t0 → (∀ c i, ¬ c = 401 → ai_hv t0 c i = ai_hv tb c i) → (∀ q, q < k → ai_hv t0 401 q = some (.inl (bv (H q)))) → en_ld cl 0 = some (gx_r 383) → en_ld cl 1 = some (.inl s) → en_ld cl 2 = some (.inl m) → en_ld cl 3 = some (.inl k) → en_ex none (en_u (d + 2)) (en_code 199) (fun _ => false) (119, cl, [], t0, n, 0) Q := by
  intro j
  induction j with
  | zero =>
    intro k cl t0 hk g0 e0 i0 l0 l1 l2 l3
    have hk : k = 64 := by omega
    subst hk
    refine gx_ld (i := 3) (d := 0) (v := .inl 64) rfl (fun _ => rfl) l3 rfl rfl ?_
    refine ex_go (S := (122, cl, [.inl 64, .inl 64], t0, n, 0)) rfl (fun _ => rfl) rfl ?_
    refine ex_go (S := (143, cl, [], t0, n, 0)) rfl (fun _ => rfl) rfl ?_
    exact hQ _ t0 g0 e0 i0 l0 l1 l2
  | succ j ih =>
    intro k cl t0 hk g0 e0 i0 l0 l1 l2 l3
    have ks := (e0 402 k (by first | decide | omega)).trans (hH k (by first | decide | omega))
    have hb := bv_le (b := H k)
    refine gx_ld (i := 3) (d := 0) (v := .inl k) rfl (fun _ => rfl) l3 rfl rfl ?_
    refine ex_go (S := (122, cl, [.inl 64, .inl k], t0, n, 0)) rfl (fun _ => rfl) rfl ?_
    refine gx_2f (c := .ge) rfl (by first | decide | omega) (by first | decide | omega) (show ¬ (64 ≤ k) from by omega) rfl ?_
    refine gx_ld (i := 0) (d := 2) (v := gx_r 383) rfl (fun _ => rfl) l0 rfl rfl ?_
    refine gx_ref (c := 401) rfl g0 rfl rfl rfl rfl ?_
    refine gx_ld (i := 3) (d := 0) (v := .inl k) rfl (fun _ => rfl) l3 rfl rfl ?_
    refine gx_ld (i := 0) (d := 2) (v := gx_r 383) rfl (fun _ => rfl) l0 rfl rfl ?_
    refine gx_ref (c := 402) rfl g0 rfl rfl rfl rfl ?_
    refine gx_ld (i := 3) (d := 0) (v := .inl k) rfl (fun _ => rfl) l3 rfl rfl ?_
    refine gx_ag (v := .inl (bv (H k))) (cb := fun c => Nat.beq c 2 || Nat.beq c 1) rfl (fun _ => rfl) g0 rfl rfl ks (by first | decide | omega) rfl ?_
    refine gx_apv (d := 2) rfl (fun _ => rfl) g0 rfl rfl (st_fit (by first | decide | omega)) (show k < 64 from by omega) (gx_run1 (show k < 64 from by omega)) (ai_in_h (by first | decide | omega) (by first | decide | omega) (by first | decide | omega)) rfl (fun t121 g121 k121 e121 => ?_)
    have k22 : ai_hv t121 402 k = some (.inl (bv (H k))) := (e121 402 k (by first | decide | omega)).trans ks
    refine gx_incS (i := 3) (a := k) (x := 1) rfl (fun _ => rfl) l3 (by first | decide | omega) rfl (fun l23 hl23 ml23 => ?_)
    have l23_0 : en_ld l23 0 = some (gx_r 383) := ml23 0 _ l0 rfl
    have l23_1 : en_ld l23 1 = some (.inl s) := ml23 1 _ l1 rfl
    have l23_2 : en_ld l23 2 = some (.inl m) := ml23 2 _ l2 rfl
    refine ex_go (S := (119, l23, [], t121, n, 0)) rfl (fun _ => rfl) rfl ?_
    refine ih (k + 1) _ t121 (by first | decide | omega) g121 (fun c i h => (e121 c i (by first | decide | omega)).trans (e0 c i h)) (fun q hq => ?_) l23_0 l23_1 l23_2 hl23
    by_cases e9 : q = k
    · subst e9; exact k121
    · exact (e121 401 q (by first | decide | omega)).trans (i0 q (by first | decide | omega))
theorem sr_hsd (d n : Nat) {tb : en_H} {w : Nat → Nat → Nat} {L : List Nat} {H : Nat → Bool} {s m k : Nat} {Q : en_O → Prop} (hR : RW tb w L) (hs : s ≤ 1000000) (hH : HB tb 401 H) (hk : k < 64) (hQ : ∀ cl t1, ai_HG ah_G t1 → (∀ c i, ¬ c = 402 → ai_hv t1 c i = ai_hv tb c i) → (∀ q, q < 64 → ai_hv t1 402 q = some (.inl (bv (H q || (hin w H q (k + 1) && !opn w s q))))) → en_ld cl 0 = some (gx_r 383) → en_ld cl 1 = some (.inl s) → en_ld cl 2 = some (.inl m) → en_ld cl 3 = some (.inl k) → en_ex none (en_u (d + 2)) (en_code 199) (fun _ => false) (111, cl, [], t1, n, 0) Q) : ∀ j i cl t0, i + j = 4 → ai_HG ah_G t0 → (∀ c i, ¬ c = 402 → ai_hv t0 c i = ai_hv tb c i) → (∀ q, q < 64 → ai_hv t0 402 q = some (.inl (bv (H q || ((hin w H q k || (H k && hsd w k q i)) && !opn w s q))))) → en_ld cl 0 = some (gx_r 383) → en_ld cl 1 = some (.inl s) → en_ld cl 2 = some (.inl m) → en_ld cl 3 = some (.inl k) → en_ld cl 4 = some (.inl i) → en_ex none (en_u (d + 2)) (en_code 199) (fun _ => false) (49, cl, [], t0, n, 0) Q := by
  intro j
  induction j with
  | zero =>
    intro i cl t0 hi g0 e0 i0 l0 l1 l2 l3 l4
    have hi : i = 4 := by omega
    subst hi
    have kh := (e0 401 k (by first | decide | omega)).trans (hH k hk)
    have hb := bv_le (b := H k)
    refine gx_ld (i := 4) (d := 0) (v := .inl 4) rfl (fun _ => rfl) l4 rfl rfl ?_
    refine ex_go (S := (52, cl, [.inl 4, .inl 4], t0, n, 0)) rfl (fun _ => rfl) rfl ?_
    refine ex_go (S := (111, cl, [], t0, n, 0)) rfl (fun _ => rfl) rfl ?_
    exact hQ _ t0 g0 e0 i0 l0 l1 l2 l3
  | succ j ih =>
    intro i cl t0 hi g0 e0 i0 l0 l1 l2 l3 l4
    have hR0 : RW t0 w L := RW_keep hR (fun i hi => e0 389 i (by first | decide | omega)) (fun c i hc _ => e0 c i (by first | decide | omega))
    have hq9 := nb_lt (O := w 0 0) (D := w 0 1) (p := k) (s := i) hk hR.2.1.1 hR.2.1.2.1
    have kt := i0 _ hq9
    have hb2 := bv_le (b := (H (nb (w 0 0) (w 0 1) k i) || ((hin w H (nb (w 0 0) (w 0 1) k i) k || (H k && hsd w k (nb (w 0 0) (w 0 1) k i) i)) && !opn w s (nb (w 0 0) (w 0 1) k i))))
    have kh := (e0 401 k (by first | decide | omega)).trans (hH k hk)
    have hb := bv_le (b := H k)
    refine gx_ld (i := 4) (d := 0) (v := .inl i) rfl (fun _ => rfl) l4 rfl rfl ?_
    refine ex_go (S := (52, cl, [.inl 4, .inl i], t0, n, 0)) rfl (fun _ => rfl) rfl ?_
    by_cases hc21 : 4 ≤ i
    · refine gx_2t (c := .ge) rfl (by first | decide | omega) (by first | decide | omega) hc21 rfl ?_
      have hf := bv_0 (by omega : bv (H k) = 0)
      exact hQ _ t0 g0 e0 (fun q hq => by
        rw [i0 q hq, hf, Bool.false_and, Bool.or_false]
        show (_ : Option en_V) = some (.inl (bv (H q || ((hin w H q k || (H k && hsd w k q 4)) && !opn w s q))))
        rw [hf, Bool.false_and, Bool.or_false]) l0 l1 l2 l3
    · refine gx_2f (c := .ge) rfl (by first | decide | omega) (by first | decide | omega) hc21 rfl ?_
      refine gx_ld (i := 0) (d := 2) (v := gx_r 383) rfl (fun _ => rfl) l0 rfl rfl ?_
      refine gx_ref (c := 401) rfl g0 rfl rfl rfl rfl ?_
      refine gx_ld (i := 3) (d := 0) (v := .inl k) rfl (fun _ => rfl) l3 rfl rfl ?_
      refine gx_ag (v := .inl (bv (H k))) (cb := fun c => Nat.beq c 2 || Nat.beq c 1) rfl (fun _ => rfl) g0 rfl rfl kh (by first | decide | omega) rfl ?_
      by_cases hc22 : bv (H k) = 0
      · refine gx_1t (c := .eq) rfl (by first | decide | omega) hc22 rfl ?_
        have hf := bv_0 (by omega : bv (H k) = 0)
        exact hQ _ t0 g0 e0 (fun q hq => by
          rw [i0 q hq, hf, Bool.false_and, Bool.or_false]
          show (_ : Option en_V) = some (.inl (bv (H q || ((hin w H q k || (H k && hsd w k q 4)) && !opn w s q))))
          rw [hf, Bool.false_and, Bool.or_false]) l0 l1 l2 l3
      · refine gx_1f (c := .eq) rfl (by first | decide | omega) hc22 rfl ?_
        refine gx_ld (i := 0) (d := 2) (v := gx_r 383) rfl (fun _ => rfl) l0 rfl rfl ?_
        refine gx_ld (i := 3) (d := 0) (v := .inl k) rfl (fun _ => rfl) l3 rfl rfl ?_
        refine gx_ld (i := 4) (d := 0) (v := .inl i) rfl (fun _ => rfl) l4 rfl rfl ?_
        obtain ⟨_, r23, rfl⟩ := sr_onFrom d n (p := k) (s := i) g0 hR0 hk (by first | decide | omega)
        refine gx_call1 rfl rfl g0 rfl rfl r23 rfl ?_
        show en_ex _ _ _ _ (71, cl, [.inl (nb (w 0 0) (w 0 1) k i)], t0, n, 0) _
        refine gx_sto (i := 5) (d := 0) rfl (fun _ => rfl) rfl rfl (fun l24 hl24 ml24 => ?_)
        have l24_0 : en_ld l24 0 = some (gx_r 383) := ml24 0 _ l0 rfl
        have l24_1 : en_ld l24 1 = some (.inl s) := ml24 1 _ l1 rfl
        have l24_2 : en_ld l24 2 = some (.inl m) := ml24 2 _ l2 rfl
        have l24_3 : en_ld l24 3 = some (.inl k) := ml24 3 _ l3 rfl
        have l24_4 : en_ld l24 4 = some (.inl i) := ml24 4 _ l4 rfl
        refine gx_ld (i := 0) (d := 2) (v := gx_r 383) rfl (fun _ => rfl) l24_0 rfl rfl ?_
        refine gx_ref (c := 402) rfl g0 rfl rfl rfl rfl ?_
        refine gx_ld (i := 5) (d := 0) (v := .inl (nb (w 0 0) (w 0 1) k i)) rfl (fun _ => rfl) hl24 rfl rfl ?_
        refine gx_ld (i := 0) (d := 2) (v := gx_r 383) rfl (fun _ => rfl) l24_0 rfl rfl ?_
        refine gx_ref (c := 402) rfl g0 rfl rfl rfl rfl ?_
        refine gx_ld (i := 5) (d := 0) (v := .inl (nb (w 0 0) (w 0 1) k i)) rfl (fun _ => rfl) hl24 rfl rfl ?_
        refine gx_ag (v := .inl (bv (H (nb (w 0 0) (w 0 1) k i) || ((hin w H (nb (w 0 0) (w 0 1) k i) k || (H k && hsd w k (nb (w 0 0) (w 0 1) k i) i)) && !opn w s (nb (w 0 0) (w 0 1) k i))))) (cb := fun c => Nat.beq c 2 || Nat.beq c 1) rfl (fun _ => rfl) g0 rfl rfl kt (by first | decide | omega) rfl ?_
        by_cases hc25 : bv (H (nb (w 0 0) (w 0 1) k i) || ((hin w H (nb (w 0 0) (w 0 1) k i) k || (H k && hsd w k (nb (w 0 0) (w 0 1) k i) i)) && !opn w s (nb (w 0 0) (w 0 1) k i))) ≠ 0
        · refine gx_1t (c := .ne) rfl (by first | decide | omega) hc25 rfl ?_
          refine ex_go (S := (100, l24, [.inl 1, .inl (nb (w 0 0) (w 0 1) k i), gx_r 402], t0, n, 0)) rfl (fun _ => rfl) rfl ?_
          refine ex_go (S := (104, l24, [.inl 1, .inl (nb (w 0 0) (w 0 1) k i), gx_r 402], t0, n, 0)) rfl (fun _ => rfl) rfl ?_
          refine gx_apv (d := 2) rfl (fun _ => rfl) g0 rfl rfl (st_fit (by first | decide | omega)) (show nb (w 0 0) (w 0 1) k i < 64 from by omega) (gx_run1 (show nb (w 0 0) (w 0 1) k i < 64 from by omega)) (ai_in_h (by first | decide | omega) (by first | decide | omega) (by first | decide | omega)) rfl (fun t126 g126 k126 e126 => ?_)
          have k27 : ai_hv t126 401 k = some (.inl (bv (H k))) := (e126 401 k (by first | decide | omega)).trans kh
          refine gx_incS (i := 4) (a := i) (x := 1) rfl (fun _ => rfl) l24_4 (by first | decide | omega) rfl (fun l28 hl28 ml28 => ?_)
          have l28_0 : en_ld l28 0 = some (gx_r 383) := ml28 0 _ l24_0 rfl
          have l28_1 : en_ld l28 1 = some (.inl s) := ml28 1 _ l24_1 rfl
          have l28_2 : en_ld l28 2 = some (.inl m) := ml28 2 _ l24_2 rfl
          have l28_3 : en_ld l28 3 = some (.inl k) := ml28 3 _ l24_3 rfl
          have l28_5 : en_ld l28 5 = some (.inl (nb (w 0 0) (w 0 1) k i)) := ml28 5 _ hl24 rfl
          refine ex_go (S := (49, l28, [], t126, n, 0)) rfl (fun _ => rfl) rfl ?_
          have hHk := bv_1 (b := H k) (by first | decide | omega)
          have hT9 := bv_1 (b := (H (nb (w 0 0) (w 0 1) k i) || ((hin w H (nb (w 0 0) (w 0 1) k i) k || (H k && hsd w k (nb (w 0 0) (w 0 1) k i) i)) && !opn w s (nb (w 0 0) (w 0 1) k i)))) (by first | decide | omega)
          have hv9 : bv (H (nb (w 0 0) (w 0 1) k i) || ((hin w H (nb (w 0 0) (w 0 1) k i) k || (H k && hsd w k (nb (w 0 0) (w 0 1) k i) (i + 1))) && !opn w s (nb (w 0 0) (w 0 1) k i))) = 1 := by
            refine bv_t ?_
            show (H (nb (w 0 0) (w 0 1) k i) || ((hin w H (nb (w 0 0) (w 0 1) k i) k || (H k && (hsd w k (nb (w 0 0) (w 0 1) k i) i || decide (nb (w 0 0) (w 0 1) k i = nb (w 0 0) (w 0 1) k i)))) && !opn w s (nb (w 0 0) (w 0 1) k i))) = true
            revert hT9
            generalize H (nb (w 0 0) (w 0 1) k i) = a1
            generalize hin w H (nb (w 0 0) (w 0 1) k i) k = a2
            generalize hsd w k (nb (w 0 0) (w 0 1) k i) i = a3
            generalize opn w s (nb (w 0 0) (w 0 1) k i) = a4
            generalize decide (nb (w 0 0) (w 0 1) k i = nb (w 0 0) (w 0 1) k i) = a5
            generalize H k = a6
            cases a1 <;> cases a2 <;> cases a3 <;> cases a4 <;> cases a5 <;> cases a6 <;> decide
          refine ih (i + 1) _ t126 (by first | decide | omega) g126 (fun c i h => (e126 c i (by first | decide | omega)).trans (e0 c i h)) (fun q hq => ?_) l28_0 l28_1 l28_2 l28_3 hl28
          by_cases e9 : q = nb (w 0 0) (w 0 1) k i
          · rw [e9, hv9]; exact k126
          · rw [e126 402 q (by first | decide | omega), i0 q hq]
            show (_ : Option en_V) = some (.inl (bv (H q || ((hin w H q k || (H k && (hsd w k q i || decide (nb (w 0 0) (w 0 1) k i = q)))) && !opn w s q))))
            rw [decide_eq_false (fun z => e9 z.symm), Bool.or_false]
        · refine gx_1f (c := .ne) rfl (by first | decide | omega) hc25 rfl ?_
          refine gx_ld (i := 0) (d := 2) (v := gx_r 383) rfl (fun _ => rfl) l24_0 rfl rfl ?_
          refine gx_ld (i := 5) (d := 0) (v := .inl (nb (w 0 0) (w 0 1) k i)) rfl (fun _ => rfl) hl24 rfl rfl ?_
          refine gx_ld (i := 1) (d := 0) (v := .inl s) rfl (fun _ => rfl) l24_1 rfl rfl ?_
          obtain ⟨_, r29, rfl⟩ := sr_isOpen (d + 1) n (q := nb (w 0 0) (w 0 1) k i) (s := s) g0 hR0 hq9 hs
          have hbo := bv_le (b := opn w s (nb (w 0 0) (w 0 1) k i))
          refine gx_call1 rfl rfl g0 rfl rfl r29 rfl ?_
          show en_ex _ _ _ _ (96, l24, [.inl (bv (opn w s (nb (w 0 0) (w 0 1) k i))), .inl (nb (w 0 0) (w 0 1) k i), gx_r 402], t0, n, 0) _
          by_cases hc30 : bv (opn w s (nb (w 0 0) (w 0 1) k i)) ≠ 0
          · refine gx_1t (c := .ne) rfl (by first | decide | omega) hc30 rfl ?_
            refine ex_go (S := (104, l24, [.inl 0, .inl (nb (w 0 0) (w 0 1) k i), gx_r 402], t0, n, 0)) rfl (fun _ => rfl) rfl ?_
            refine gx_apv (d := 2) rfl (fun _ => rfl) g0 rfl rfl (st_fit (by first | decide | omega)) (show nb (w 0 0) (w 0 1) k i < 64 from by omega) (gx_run1 (show nb (w 0 0) (w 0 1) k i < 64 from by omega)) (ai_in_h (by first | decide | omega) (by first | decide | omega) (by first | decide | omega)) rfl (fun t131 g131 k131 e131 => ?_)
            have k32 : ai_hv t131 401 k = some (.inl (bv (H k))) := (e131 401 k (by first | decide | omega)).trans kh
            refine gx_incS (i := 4) (a := i) (x := 1) rfl (fun _ => rfl) l24_4 (by first | decide | omega) rfl (fun l33 hl33 ml33 => ?_)
            have l33_0 : en_ld l33 0 = some (gx_r 383) := ml33 0 _ l24_0 rfl
            have l33_1 : en_ld l33 1 = some (.inl s) := ml33 1 _ l24_1 rfl
            have l33_2 : en_ld l33 2 = some (.inl m) := ml33 2 _ l24_2 rfl
            have l33_3 : en_ld l33 3 = some (.inl k) := ml33 3 _ l24_3 rfl
            have l33_5 : en_ld l33 5 = some (.inl (nb (w 0 0) (w 0 1) k i)) := ml33 5 _ hl24 rfl
            refine ex_go (S := (49, l33, [], t131, n, 0)) rfl (fun _ => rfl) rfl ?_
            have hHk := bv_1 (b := H k) (by first | decide | omega)
            have hT9 := bv_0 (b := (H (nb (w 0 0) (w 0 1) k i) || ((hin w H (nb (w 0 0) (w 0 1) k i) k || (H k && hsd w k (nb (w 0 0) (w 0 1) k i) i)) && !opn w s (nb (w 0 0) (w 0 1) k i)))) (by first | decide | omega)
            have ho9 := bv_1 (b := opn w s (nb (w 0 0) (w 0 1) k i)) (by first | decide | omega)
            have hv9 : bv (H (nb (w 0 0) (w 0 1) k i) || ((hin w H (nb (w 0 0) (w 0 1) k i) k || (H k && hsd w k (nb (w 0 0) (w 0 1) k i) (i + 1))) && !opn w s (nb (w 0 0) (w 0 1) k i))) = 0 := by
              refine bv_f ?_
              show (H (nb (w 0 0) (w 0 1) k i) || ((hin w H (nb (w 0 0) (w 0 1) k i) k || (H k && (hsd w k (nb (w 0 0) (w 0 1) k i) i || decide (nb (w 0 0) (w 0 1) k i = nb (w 0 0) (w 0 1) k i)))) && !opn w s (nb (w 0 0) (w 0 1) k i))) = false
              rw [decide_eq_true (rfl : nb (w 0 0) (w 0 1) k i = nb (w 0 0) (w 0 1) k i), hHk, ho9]
              rw [hHk, ho9] at hT9
              revert hT9
              generalize H (nb (w 0 0) (w 0 1) k i) = a1
              generalize hin w H (nb (w 0 0) (w 0 1) k i) k = a2
              generalize hsd w k (nb (w 0 0) (w 0 1) k i) i = a3
              cases a1 <;> cases a2 <;> cases a3 <;> decide
            refine ih (i + 1) _ t131 (by first | decide | omega) g131 (fun c i h => (e131 c i (by first | decide | omega)).trans (e0 c i h)) (fun q hq => ?_) l33_0 l33_1 l33_2 l33_3 hl33
            by_cases e9 : q = nb (w 0 0) (w 0 1) k i
            · rw [e9, hv9]; exact k131
            · rw [e131 402 q (by first | decide | omega), i0 q hq]
              show (_ : Option en_V) = some (.inl (bv (H q || ((hin w H q k || (H k && (hsd w k q i || decide (nb (w 0 0) (w 0 1) k i = q)))) && !opn w s q))))
              rw [decide_eq_false (fun z => e9 z.symm), Bool.or_false]
          · refine gx_1f (c := .ne) rfl (by first | decide | omega) hc30 rfl ?_
            refine ex_go (S := (100, l24, [.inl 1, .inl (nb (w 0 0) (w 0 1) k i), gx_r 402], t0, n, 0)) rfl (fun _ => rfl) rfl ?_
            refine ex_go (S := (104, l24, [.inl 1, .inl (nb (w 0 0) (w 0 1) k i), gx_r 402], t0, n, 0)) rfl (fun _ => rfl) rfl ?_
            refine gx_apv (d := 2) rfl (fun _ => rfl) g0 rfl rfl (st_fit (by first | decide | omega)) (show nb (w 0 0) (w 0 1) k i < 64 from by omega) (gx_run1 (show nb (w 0 0) (w 0 1) k i < 64 from by omega)) (ai_in_h (by first | decide | omega) (by first | decide | omega) (by first | decide | omega)) rfl (fun t134 g134 k134 e134 => ?_)
            have k35 : ai_hv t134 401 k = some (.inl (bv (H k))) := (e134 401 k (by first | decide | omega)).trans kh
            refine gx_incS (i := 4) (a := i) (x := 1) rfl (fun _ => rfl) l24_4 (by first | decide | omega) rfl (fun l36 hl36 ml36 => ?_)
            have l36_0 : en_ld l36 0 = some (gx_r 383) := ml36 0 _ l24_0 rfl
            have l36_1 : en_ld l36 1 = some (.inl s) := ml36 1 _ l24_1 rfl
            have l36_2 : en_ld l36 2 = some (.inl m) := ml36 2 _ l24_2 rfl
            have l36_3 : en_ld l36 3 = some (.inl k) := ml36 3 _ l24_3 rfl
            have l36_5 : en_ld l36 5 = some (.inl (nb (w 0 0) (w 0 1) k i)) := ml36 5 _ hl24 rfl
            refine ex_go (S := (49, l36, [], t134, n, 0)) rfl (fun _ => rfl) rfl ?_
            have hHk := bv_1 (b := H k) (by first | decide | omega)
            have hT9 := bv_0 (b := (H (nb (w 0 0) (w 0 1) k i) || ((hin w H (nb (w 0 0) (w 0 1) k i) k || (H k && hsd w k (nb (w 0 0) (w 0 1) k i) i)) && !opn w s (nb (w 0 0) (w 0 1) k i)))) (by first | decide | omega)
            have ho9 := bv_0 (b := opn w s (nb (w 0 0) (w 0 1) k i)) (by first | decide | omega)
            have hv9 : bv (H (nb (w 0 0) (w 0 1) k i) || ((hin w H (nb (w 0 0) (w 0 1) k i) k || (H k && hsd w k (nb (w 0 0) (w 0 1) k i) (i + 1))) && !opn w s (nb (w 0 0) (w 0 1) k i))) = 1 := by
              refine bv_t ?_
              show (H (nb (w 0 0) (w 0 1) k i) || ((hin w H (nb (w 0 0) (w 0 1) k i) k || (H k && (hsd w k (nb (w 0 0) (w 0 1) k i) i || decide (nb (w 0 0) (w 0 1) k i = nb (w 0 0) (w 0 1) k i)))) && !opn w s (nb (w 0 0) (w 0 1) k i))) = true
              rw [decide_eq_true (rfl : nb (w 0 0) (w 0 1) k i = nb (w 0 0) (w 0 1) k i), hHk, ho9]
              rw [hHk, ho9] at hT9
              revert hT9
              generalize H (nb (w 0 0) (w 0 1) k i) = a1
              generalize hin w H (nb (w 0 0) (w 0 1) k i) k = a2
              generalize hsd w k (nb (w 0 0) (w 0 1) k i) i = a3
              cases a1 <;> cases a2 <;> cases a3 <;> decide
            refine ih (i + 1) _ t134 (by first | decide | omega) g134 (fun c i h => (e134 c i (by first | decide | omega)).trans (e0 c i h)) (fun q hq => ?_) l36_0 l36_1 l36_2 l36_3 hl36
            by_cases e9 : q = nb (w 0 0) (w 0 1) k i
            · rw [e9, hv9]; exact k134
            · rw [e134 402 q (by first | decide | omega), i0 q hq]
              show (_ : Option en_V) = some (.inl (bv (H q || ((hin w H q k || (H k && (hsd w k q i || decide (nb (w 0 0) (w 0 1) k i = q)))) && !opn w s q))))
              rw [decide_eq_false (fun z => e9 z.symm), Bool.or_false]
theorem sr_hpl (d n : Nat) {tb : en_H} {w : Nat → Nat → Nat} {L : List Nat} {H : Nat → Bool} {s m : Nat} {Q : en_O → Prop} (hR : RW tb w L) (hs : s ≤ 1000000) (hH : HB tb 401 H) (hQ : ∀ cl t1, ai_HG ah_G t1 → (∀ c i, ¬ c = 402 → ai_hv t1 c i = ai_hv tb c i) → HB t1 402 (hst w s H) → en_ld cl 0 = some (gx_r 383) → en_ld cl 1 = some (.inl s) → en_ld cl 2 = some (.inl m) → en_ex none (en_u (d + 2)) (en_code 199) (fun _ => false) (117, cl, [], t1, n, 0) Q) : ∀ j k cl t0, k + j = 64 → ai_HG ah_G t0 → (∀ c i, ¬ c = 402 → ai_hv t0 c i = ai_hv tb c i) → (∀ q, q < 64 → ai_hv t0 402 q = some (.inl (bv (H q || (hin w H q k && !opn w s q))))) → en_ld cl 0 = some (gx_r 383) → en_ld cl 1 = some (.inl s) → en_ld cl 2 = some (.inl m) → en_ld cl 3 = some (.inl k) → en_ex none (en_u (d + 2)) (en_code 199) (fun _ => false) (40, cl, [], t0, n, 0) Q := by
  intro j
  induction j with
  | zero =>
    intro k cl t0 hk g0 e0 i0 l0 l1 l2 l3
    have hk : k = 64 := by omega
    subst hk
    refine gx_ld (i := 3) (d := 0) (v := .inl 64) rfl (fun _ => rfl) l3 rfl rfl ?_
    refine ex_go (S := (43, cl, [.inl 64, .inl 64], t0, n, 0)) rfl (fun _ => rfl) rfl ?_
    refine ex_go (S := (117, cl, [], t0, n, 0)) rfl (fun _ => rfl) rfl ?_
    exact hQ _ t0 g0 e0 i0 l0 l1 l2
  | succ j ih =>
    intro k cl t0 hk g0 e0 i0 l0 l1 l2 l3
    refine gx_ld (i := 3) (d := 0) (v := .inl k) rfl (fun _ => rfl) l3 rfl rfl ?_
    refine ex_go (S := (43, cl, [.inl 64, .inl k], t0, n, 0)) rfl (fun _ => rfl) rfl ?_
    refine gx_2f (c := .ge) rfl (by first | decide | omega) (by first | decide | omega) (show ¬ (64 ≤ k) from by omega) rfl ?_
    refine ex_go (S := (47, cl, [.inl 0], t0, n, 0)) rfl (fun _ => rfl) rfl ?_
    refine gx_sto (i := 4) (d := 0) rfl (fun _ => rfl) rfl rfl (fun l21 hl21 ml21 => ?_)
    have l21_0 : en_ld l21 0 = some (gx_r 383) := ml21 0 _ l0 rfl
    have l21_1 : en_ld l21 1 = some (.inl s) := ml21 1 _ l1 rfl
    have l21_2 : en_ld l21 2 = some (.inl m) := ml21 2 _ l2 rfl
    have l21_3 : en_ld l21 3 = some (.inl k) := ml21 3 _ l3 rfl
    refine sr_hsd d n hR hs hH (by first | decide | omega) (fun cl1 t1 g1 e1 i1 m0 m1 m2 m3 => ?_) 4 0 _ _ (by first | decide | omega) g0 e0 (fun q hq => by
      rw [i0 q hq]
      show (_ : Option en_V) = some (.inl (bv (H q || ((hin w H q k || (H k && false)) && !opn w s q))))
      rw [Bool.and_false, Bool.or_false]) l21_0 l21_1 l21_2 l21_3 hl21
    refine gx_incS (i := 3) (a := k) (x := 1) rfl (fun _ => rfl) m3 (by first | decide | omega) rfl (fun l22 hl22 ml22 => ?_)
    have l22_0 : en_ld l22 0 = some (gx_r 383) := ml22 0 _ m0 rfl
    have l22_1 : en_ld l22 1 = some (.inl s) := ml22 1 _ m1 rfl
    have l22_2 : en_ld l22 2 = some (.inl m) := ml22 2 _ m2 rfl
    refine ex_go (S := (40, l22, [], t1, n, 0)) rfl (fun _ => rfl) rfl ?_
    exact ih (k + 1) _ t1 (by first | decide | omega) g1 e1 i1 l22_0 l22_1 l22_2 hl22
theorem sr_hl (d n : Nat) {tb : en_H} {w : Nat → Nat → Nat} {L : List Nat} {H : Nat → Bool} {s : Nat} {Q : en_O → Prop} (hR : RW tb w L) (hs : s ≤ 1000000) (hQ : ∀ cl t1, ai_HG ah_G t1 → (∀ c i, ¬ (c = 401 ∨ c = 402) → ai_hv t1 c i = ai_hv tb c i) → HB t1 401 (hit w s (w 0 5) H) → en_ex none (en_u (d + 2)) (en_code 199) (fun _ => false) (149, cl, [], t1, n, 0) Q) : ∀ j m cl t0, m + j = w 0 5 → ai_HG ah_G t0 → (∀ c i, ¬ (c = 401 ∨ c = 402) → ai_hv t0 c i = ai_hv tb c i) → HB t0 401 (hit w s m H) → en_ld cl 0 = some (gx_r 383) → en_ld cl 1 = some (.inl s) → en_ld cl 2 = some (.inl m) → en_ex none (en_u (d + 2)) (en_code 199) (fun _ => false) (2, cl, [], t0, n, 0) Q := by
  intro j
  induction j with
  | zero =>
    intro m cl t0 hm g0 e0 i0 l0 l1 l2
    have hm : m = w 0 5 := by omega
    rw [hm] at i0 l2
    have kp := (e0 389 5 (by first | decide | omega)).trans (hR.1 5 (by first | decide | omega))
    have hp4 := hR.2.1.2.2.2.2.2.2
    refine gx_ld (i := 2) (d := 0) (v := .inl (w 0 5)) rfl (fun _ => rfl) l2 rfl rfl ?_
    refine gx_ld (i := 0) (d := 2) (v := gx_r 383) rfl (fun _ => rfl) l0 rfl rfl ?_
    refine gx_ref (c := 389) rfl g0 rfl rfl rfl rfl ?_
    refine ex_go (S := (8, cl, [.inl 5, gx_r 389, .inl (w 0 5)], t0, n, 0)) rfl (fun _ => rfl) rfl ?_
    refine gx_ag (v := .inl (w 0 5)) (cb := fun c => Nat.beq c 0) rfl (fun _ => rfl) g0 rfl rfl kp (by first | decide | omega) rfl ?_
    refine gx_2t (c := .ge) rfl (by first | decide | omega) (by first | decide | omega) (show w 0 5 ≤ w 0 5 from by omega) rfl ?_
    exact hQ _ t0 g0 e0 i0
  | succ j ih =>
    intro m cl t0 hm g0 e0 i0 l0 l1 l2
    have hR0 : RW t0 w L := RW_keep hR (fun i hi => e0 389 i (by first | decide | omega)) (fun c i hc _ => e0 c i (by first | decide | omega))
    have kp := (e0 389 5 (by first | decide | omega)).trans (hR.1 5 (by first | decide | omega))
    have hp4 := hR.2.1.2.2.2.2.2.2
    refine gx_ld (i := 2) (d := 0) (v := .inl m) rfl (fun _ => rfl) l2 rfl rfl ?_
    refine gx_ld (i := 0) (d := 2) (v := gx_r 383) rfl (fun _ => rfl) l0 rfl rfl ?_
    refine gx_ref (c := 389) rfl g0 rfl rfl rfl rfl ?_
    refine ex_go (S := (8, cl, [.inl 5, gx_r 389, .inl m], t0, n, 0)) rfl (fun _ => rfl) rfl ?_
    refine gx_ag (v := .inl (w 0 5)) (cb := fun c => Nat.beq c 0) rfl (fun _ => rfl) g0 rfl rfl kp (by first | decide | omega) rfl ?_
    refine gx_2f (c := .ge) rfl (by first | decide | omega) (by first | decide | omega) (show ¬ (w 0 5 ≤ m) from by omega) rfl ?_
    refine ex_go (S := (13, cl, [.inl 0], t0, n, 0)) rfl (fun _ => rfl) rfl ?_
    refine gx_sto (i := 3) (d := 0) rfl (fun _ => rfl) rfl rfl (fun l21 hl21 ml21 => ?_)
    have l21_0 : en_ld l21 0 = some (gx_r 383) := ml21 0 _ l0 rfl
    have l21_1 : en_ld l21 1 = some (.inl s) := ml21 1 _ l1 rfl
    have l21_2 : en_ld l21 2 = some (.inl m) := ml21 2 _ l2 rfl
    refine sr_hcp1 d n i0 (fun cl1 t1 g1 e1 i1 a0 a1 a2 => ?_) 64 0 _ _ rfl g0 (fun _ _ _ => rfl) (fun q hq => absurd hq (Nat.not_lt_zero q)) l21_0 l21_1 l21_2 hl21
    have k22 : ai_hv t1 389 5 = some (.inl (w 0 5)) := (e1 389 5 (by first | decide | omega)).trans kp
    refine ex_go (S := (39, cl1, [.inl 0], t1, n, 0)) rfl (fun _ => rfl) rfl ?_
    refine gx_sto (i := 3) (d := 0) rfl (fun _ => rfl) rfl rfl (fun l23 hl23 ml23 => ?_)
    have l23_0 : en_ld l23 0 = some (gx_r 383) := ml23 0 _ a0 rfl
    have l23_1 : en_ld l23 1 = some (.inl s) := ml23 1 _ a1 rfl
    have l23_2 : en_ld l23 2 = some (.inl m) := ml23 2 _ a2 rfl
    refine sr_hpl d n (RW_keep hR0 (fun i hi => e1 389 i (by first | decide | omega)) (fun c i hc _ => e1 c i (by first | decide | omega))) hs (fun q hq => (e1 401 q (by first | decide | omega)).trans (i0 q hq)) (fun cl2 t2 g2 e2 i2 b0 b1 b2 => ?_) 64 0 _ _ rfl g1 (fun _ _ _ => rfl) (fun q hq => by
      rw [i1 q hq]
      show (_ : Option en_V) = some (.inl (bv (hit w s m H q || (false && !opn w s q))))
      rw [Bool.false_and, Bool.or_false]) l23_0 l23_1 l23_2 hl23
    have k24 : ai_hv t2 389 5 = some (.inl (w 0 5)) := (e2 389 5 (by first | decide | omega)).trans k22
    refine ex_go (S := (118, cl2, [.inl 0], t2, n, 0)) rfl (fun _ => rfl) rfl ?_
    refine gx_sto (i := 3) (d := 0) rfl (fun _ => rfl) rfl rfl (fun l25 hl25 ml25 => ?_)
    have l25_0 : en_ld l25 0 = some (gx_r 383) := ml25 0 _ b0 rfl
    have l25_1 : en_ld l25 1 = some (.inl s) := ml25 1 _ b1 rfl
    have l25_2 : en_ld l25 2 = some (.inl m) := ml25 2 _ b2 rfl
    refine sr_hcp2 d n i2 (fun cl3 t3 g3 e3 i3 c0 c1 c2 => ?_) 64 0 _ _ rfl g2 (fun _ _ _ => rfl) (fun q hq => absurd hq (Nat.not_lt_zero q)) l25_0 l25_1 l25_2 hl25
    have k26 : ai_hv t3 389 5 = some (.inl (w 0 5)) := (e3 389 5 (by first | decide | omega)).trans k24
    refine gx_incS (i := 2) (a := m) (x := 1) rfl (fun _ => rfl) c2 (by first | decide | omega) rfl (fun l27 hl27 ml27 => ?_)
    have l27_0 : en_ld l27 0 = some (gx_r 383) := ml27 0 _ c0 rfl
    have l27_1 : en_ld l27 1 = some (.inl s) := ml27 1 _ c1 rfl
    refine ex_go (S := (2, l27, [], t3, n, 0)) rfl (fun _ => rfl) rfl ?_
    exact ih (m + 1) _ t3 (by first | decide | omega) g3 (fun c i h => ((e3 c i (by first | decide | omega)).trans ((e2 c i (by first | decide | omega)).trans (e1 c i (by first | decide | omega)))).trans (e0 c i h)) i3 l27_0 l27_1 hl27
theorem sr_hauls (d n : Nat) {t0 : en_H} {w : Nat → Nat → Nat} {L : List Nat} {H : Nat → Bool} {s : Nat} (g0 : ai_HG ah_G t0) (hR : RW t0 w L) (hs : s ≤ 1000000) (hH : HB t0 401 H) : ∃ r, en_u (d + 3) 199 [gx_r 383, .inl s] t0 n = some r ∧ ∃ t', r = (none, t', n, 0) ∧ ai_HG ah_G t' ∧ (∀ c i, ¬ (c = 401 ∨ c = 402) → ai_hv t' c i = ai_hv t0 c i) ∧ HB t' 401 (hit w s (w 0 5) H) := by
  refine en_u_ex (d := d + 2) rfl ?_
  show en_ex _ _ _ _ (0, [(0, gx_r 383), (1, .inl s)], [], t0, n, 0) _
  refine ex_go (S := (1, [(0, gx_r 383), (1, .inl s)], [.inl 0], t0, n, 0)) rfl (fun _ => rfl) rfl ?_
  refine ex_go (S := (2, [(2, .inl 0), (0, gx_r 383), (1, .inl s)], [], t0, n, 0)) rfl (fun _ => rfl) rfl ?_
  refine sr_hl d n (tb := t0) hR hs (fun cl t1 g1 e1 i1 => ?_) (w 0 5) 0 _ _ (by first | decide | omega) g0 (fun _ _ _ => rfl) hH rfl rfl rfl
  refine ex_ret (r := (none, t1, n, 0)) rfl (fun _ => rfl) ?_
  exact ⟨_, rfl, t1, rfl, g1, e1, i1⟩
end SSI
