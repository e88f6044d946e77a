section SLO
/-! ### lost: what a day's look costs, the least at worst -/
noncomputable def wlo (L : List Nat) (d : Nat) : Nat := vcl 99 ((vrun 0 d 0 L []).headD 0)
theorem vcl_le {mo v : Nat} : vcl mo v ≤ mo := by
  unfold vcl
  by_cases c : v < 2147483648
  · rw [if_pos c]; omega
  · rw [if_neg c]; omega
noncomputable def lK (W : Nat → Nat) (T : Nat → Nat → Nat) (f l d : Nat) : Nat := W d + max (T f d) (T (d + 1) l)
noncomputable def lb (c : Nat → Nat) (f : Nat) : Nat → Nat
  | 0 => f
  | k + 1 => if c (f + k + 1) < c (lb c f k) then f + k + 1 else lb c f k
noncomputable def lT (W : Nat → Nat) : Nat → Nat → Nat → Nat
  | 0 => fun _ _ => 0
  | n + 1 => fun f l => if l - f ≤ n then lT W n f l else lK W (lT W n) f l (lb (lK W (lT W n) f l) f (l - f - 1))
noncomputable def LT (W : Nat → Nat) (f l : Nat) : Nat := lT W (l - f) f l
theorem lb_or (c : Nat → Nat) (f k : Nat) : lb c f (k + 1) = f + k + 1 ∨ lb c f (k + 1) = lb c f k := by
  by_cases h : c (f + k + 1) < c (lb c f k)
  · exact Or.inl (if_pos h)
  · exact Or.inr (if_neg h)
theorem lb_in (c : Nat → Nat) (f : Nat) : ∀ k, f ≤ lb c f k ∧ lb c f k ≤ f + k
  | 0 => ⟨Nat.le_refl _, Nat.le_refl _⟩
  | k + 1 => by
    have h := lb_in c f k
    rcases lb_or c f k with e | e
    · rw [e]; omega
    · rw [e]; omega
theorem lb_le (c : Nat → Nat) (f : Nat) : ∀ k, c (lb c f k) ≤ c f
  | 0 => Nat.le_refl _
  | k + 1 => by
    have h := lb_le c f k
    by_cases h1 : c (f + k + 1) < c (lb c f k)
    · have e : lb c f (k + 1) = f + k + 1 := if_pos h1
      rw [e]
      exact Nat.le_trans (Nat.le_of_lt h1) h
    · have e : lb c f (k + 1) = lb c f k := if_neg h1
      rw [e]
      exact h
theorem lb_congr {c c' : Nat → Nat} {f : Nat} : ∀ {k : Nat}, (∀ d, f ≤ d → d ≤ f + k → c d = c' d) → lb c f k = lb c' f k
  | 0, _ => rfl
  | k + 1, h => by
    have h1 := lb_congr (c := c) (c' := c') (f := f) (k := k) (fun d a b => h d a (by first | decide | omega))
    have h2 := lb_in c' f k
    show (if c (f + k + 1) < c (lb c f k) then f + k + 1 else lb c f k) = (if c' (f + k + 1) < c' (lb c' f k) then f + k + 1 else lb c' f k)
    rw [h1, h (f + k + 1) (by first | decide | omega) (by first | decide | omega), h (lb c' f k) h2.1 (by first | decide | omega)]
theorem lT_st {W : Nat → Nat} {f l : Nat} : ∀ n, l - f ≤ n → lT W n f l = LT W f l
  | 0, h => by
    unfold LT
    rw [show l - f = 0 by omega]
  | n + 1, h => by
    by_cases c : l - f ≤ n
    · show (if l - f ≤ n then lT W n f l else _) = _
      rw [if_pos c]
      exact lT_st n c
    · unfold LT
      rw [show l - f = n + 1 by omega]
theorem LT_0 {W : Nat → Nat} {f l : Nat} (h : l ≤ f) : LT W f l = 0 := by
  unfold LT
  rw [show l - f = 0 by omega]
  rfl
theorem LT_step {W : Nat → Nat} {f l : Nat} (h : f < l) : LT W f l = lK W (LT W) f l (lb (lK W (LT W) f l) f (l - f - 1)) := by
  obtain ⟨n, hn⟩ : ∃ n, l - f = n + 1 := ⟨l - f - 1, by omega⟩
  have e1 : ∀ d, f ≤ d → d ≤ f + (l - f - 1) → lK W (lT W n) f l d = lK W (LT W) f l d := fun d a b => by
    unfold lK
    rw [lT_st n (show d - f ≤ n by omega), lT_st n (show l - (d + 1) ≤ n by omega)]
  have e2 := lb_in (lK W (LT W) f l) f (l - f - 1)
  have e0 : LT W f l = lT W (n + 1) f l := by unfold LT; rw [hn]
  rw [e0]
  show (if l - f ≤ n then _ else lK W (lT W n) f l (lb (lK W (lT W n) f l) f (l - f - 1))) = _
  rw [if_neg (by first | decide | omega), lb_congr e1, e1 _ e2.1 (by first | decide | omega)]
theorem LT_le {W : Nat → Nat} (hW : ∀ d, W d ≤ 99) : ∀ k f l, l - f ≤ k → LT W f l ≤ 99 * (l - f)
  | 0, f, l, h => by rw [LT_0 (by first | decide | omega)]; exact Nat.zero_le _
  | k + 1, f, l, h => by
    by_cases c : f < l
    · rw [LT_step c]
      refine Nat.le_trans (lb_le _ f _) ?_
      unfold lK
      have h1 := LT_le hW k (f + 1) l (by first | decide | omega)
      have h2 := hW f
      rw [LT_0 (Nat.le_refl f), Nat.zero_max]
      omega
    · rw [LT_0 (by first | decide | omega)]; exact Nat.zero_le _
theorem LT_b {W : Nat → Nat} (hW : ∀ d, W d ≤ 99) {f l : Nat} (h : l ≤ 31) : LT W f l ≤ 3069 := by
  have := LT_le hW (l - f) f l (Nat.le_refl _)
  omega
theorem lK_b {W : Nat → Nat} (hW : ∀ d, W d ≤ 99) {f l d : Nat} (h : l ≤ 31) (hd : d ≤ 31) : lK W (LT W) f l d ≤ 3168 := by
  have h1 := LT_b hW (f := f) hd
  have h2 := LT_b hW (f := d + 1) h
  have h3 := hW d
  unfold lK
  have := Nat.max_le.mpr ⟨h1, h2⟩
  omega
/-- a law of the reference that is told, or the default -/
noncomputable def RLL (t : en_H) (l fh : Nat) (L : List Nat) : Prop := (ai_hv t 389 (9 + l) = some (.inl 4294967295) ∧ L = [cdf l]) ∨ ∃ z, ai_hv t 389 (9 + l) = some (.inl z) ∧ z + L.length + 1 ≤ 1000 ∧ rco t fh z L ∧ (∀ z, z ∈ L → vo fh z) ∧ hrun 25 L 0 = some 1
theorem RLL_keep {t t' : en_H} {l fh : Nat} {L : List Nat} (h : RLL t l fh L) (e1 : ai_hv t' 389 (9 + l) = ai_hv t 389 (9 + l)) (e2 : ∀ c i, c = 390 ∨ c = 391 → ai_hv t' c i = ai_hv t c i) : RLL t' l fh L := by
  rcases h with ⟨h1, h2⟩ | ⟨z, h1, h2, h3, h4⟩
  · exact Or.inl ⟨e1.trans h1, h2⟩
  · exact Or.inr ⟨z, e1.trans h1, h2, rco_keep e2 h3, h4⟩
theorem cdf_v0 {me ti ou : Nat} : vrun me ti ou [cdf 0] [] = [me] := by
  show vs me ti ou 4294967287 [] = [me]
  unfold vs
  rw [if_pos (by decide), vpt_87]
theorem cdf_v1 {me ti ou k : Nat} (hk : k ≠ 0) : vrun me ti ou [cdf k] [] = [1] := by
  show vs me ti ou (cdf k) [] = [1]
  have e : cdf k = 1 := if_neg hk
  unfold vs
  rw [e, if_pos (by decide), vpt_n (by decide)]
theorem pe_lawOf (d n : Nat) {t0 : en_H} {lw fh mo ot me ti ou : Nat} {L : List Nat} (g0 : ai_HG ah_G t0) (hl : lw < 3) (hm : mo < 2147483648) (ho : ot < 2147483648) (hfh : fh = 7 ∨ fh = 8 ∨ fh = 2) (hf : rfc t0 fh me ti ou) (hL : RLL t0 lw fh L) (hd : L = [cdf lw] → vrun me ti ou L [] = [ot]) : ∃ r, en_u (d + 3) 211 [gx_r 383, .inl lw, .inl mo, .inl ot] t0 n = some r ∧ ∃ v t', r = (some (.inl (vcl mo v)), t', n, 0) ∧ vrun me ti ou L [] = [v] ∧ ai_HG ah_G t' ∧ (∀ c i, c ≠ 398 → ai_hv t' c i = ai_hv t0 c i) := by
  refine en_u_ex (d := d + 2) rfl ?_
  show en_ex _ _ _ _ (0, [(0, gx_r 383), (1, .inl lw), (2, .inl mo), (3, .inl ot)], [], t0, n, 0) _
  rcases hL with ⟨k0, hL⟩ | ⟨s, k0, hs, hc, hv, hr⟩
  · refine ex_go (S := (1, [(0, gx_r 383), (1, .inl lw), (2, .inl mo), (3, .inl ot)], [gx_r 383], t0, n, 0)) rfl (fun _ => rfl) rfl ?_
    refine gx_ref (c := 389) rfl g0 rfl rfl rfl rfl ?_
    refine ex_go (S := (6, [(0, gx_r 383), (1, .inl lw), (2, .inl mo), (3, .inl ot)], [.inl 9, gx_r 389], t0, n, 0)) rfl (fun _ => rfl) rfl ?_
    refine ex_go (S := (7, [(0, gx_r 383), (1, .inl lw), (2, .inl mo), (3, .inl ot)], [.inl lw, .inl 9, gx_r 389], t0, n, 0)) rfl (fun _ => rfl) rfl ?_
    refine ex_iadd rfl (by first | decide | omega) rfl ?_
    refine gx_ag (v := .inl 4294967295) (cb := fun c => Nat.beq c 0) rfl (fun _ => rfl) g0 rfl rfl k0 (by first | decide | omega) rfl ?_
    refine ex_go (S := (12, [(0, gx_r 383), (1, .inl lw), (2, .inl mo), (3, .inl ot)], [], t0, n, 0)) rfl (fun _ => rfl) rfl ?_
    refine ex_go (S := (13, [(0, gx_r 383), (1, .inl lw), (2, .inl mo), (3, .inl ot)], [.inl ot], t0, n, 0)) rfl (fun _ => rfl) rfl ?_
    refine ex_go (S := (29, [(0, gx_r 383), (1, .inl lw), (2, .inl mo), (3, .inl ot)], [.inl ot], t0, n, 0)) rfl (fun _ => rfl) rfl ?_
    refine ex_go (S := (31, [(4, .inl ot), (0, gx_r 383), (1, .inl lw), (2, .inl mo), (3, .inl ot)], [], t0, n, 0)) rfl (fun _ => rfl) rfl ?_
    refine ex_go (S := (33, [(4, .inl ot), (0, gx_r 383), (1, .inl lw), (2, .inl mo), (3, .inl ot)], [.inl ot], t0, n, 0)) rfl (fun _ => rfl) rfl ?_
    refine gx_1t (c := .ge) rfl (by first | decide | omega) (show 0 ≤ ot from by omega) rfl ?_
    refine ex_go (S := (42, [(4, .inl ot), (0, gx_r 383), (1, .inl lw), (2, .inl mo), (3, .inl ot)], [.inl ot], t0, n, 0)) rfl (fun _ => rfl) rfl ?_
    refine ex_go (S := (43, [(4, .inl ot), (0, gx_r 383), (1, .inl lw), (2, .inl mo), (3, .inl ot)], [.inl mo, .inl ot], t0, n, 0)) rfl (fun _ => rfl) rfl ?_
    by_cases hc1 : ot ≤ mo
    · refine gx_2t (c := .le) rfl (by first | decide | omega) (by first | decide | omega) hc1 rfl ?_
      refine ex_go (S := (52, [(4, .inl ot), (0, gx_r 383), (1, .inl lw), (2, .inl mo), (3, .inl ot)], [.inl ot], t0, n, 0)) rfl (fun _ => rfl) rfl ?_
      refine ex_ret (r := (some (.inl ot), t0, n, 0)) rfl (fun _ => rfl) ?_
      exact ⟨_, rfl, ot, t0, by rw [vcl_n (by first | decide | omega), show min mo ot = ot by omega], hd hL, g0, (fun c i h => rfl)⟩
    · refine gx_2f (c := .le) rfl (by first | decide | omega) (by first | decide | omega) hc1 rfl ?_
      refine ex_go (S := (47, [(4, .inl ot), (0, gx_r 383), (1, .inl lw), (2, .inl mo), (3, .inl ot)], [.inl mo], t0, n, 0)) rfl (fun _ => rfl) rfl ?_
      refine ex_go (S := (52, [(4, .inl ot), (0, gx_r 383), (1, .inl lw), (2, .inl mo), (3, .inl ot)], [.inl mo], t0, n, 0)) rfl (fun _ => rfl) rfl ?_
      refine ex_ret (r := (some (.inl mo), t0, n, 0)) rfl (fun _ => rfl) ?_
      exact ⟨_, rfl, ot, t0, by rw [vcl_n (by first | decide | omega), show min mo ot = mo by omega], hd hL, g0, (fun c i h => rfl)⟩
  · refine ex_go (S := (1, [(0, gx_r 383), (1, .inl lw), (2, .inl mo), (3, .inl ot)], [gx_r 383], t0, n, 0)) rfl (fun _ => rfl) rfl ?_
    refine gx_ref (c := 389) rfl g0 rfl rfl rfl rfl ?_
    refine ex_go (S := (6, [(0, gx_r 383), (1, .inl lw), (2, .inl mo), (3, .inl ot)], [.inl 9, gx_r 389], t0, n, 0)) rfl (fun _ => rfl) rfl ?_
    refine ex_go (S := (7, [(0, gx_r 383), (1, .inl lw), (2, .inl mo), (3, .inl ot)], [.inl lw, .inl 9, gx_r 389], t0, n, 0)) rfl (fun _ => rfl) rfl ?_
    refine ex_iadd rfl (by first | decide | omega) rfl ?_
    refine gx_ag (v := .inl s) (cb := fun c => Nat.beq c 0) rfl (fun _ => rfl) g0 rfl rfl k0 (by first | decide | omega) rfl ?_
    refine gx_1t (c := .ge) rfl (by first | decide | omega) (show 0 ≤ s from by omega) rfl ?_
    refine ex_go (S := (17, [(0, gx_r 383), (1, .inl lw), (2, .inl mo), (3, .inl ot)], [gx_r 383], t0, n, 0)) rfl (fun _ => rfl) rfl ?_
    refine ex_go (S := (18, [(0, gx_r 383), (1, .inl lw), (2, .inl mo), (3, .inl ot)], [gx_r 383, gx_r 383], t0, n, 0)) rfl (fun _ => rfl) rfl ?_
    refine gx_ref (c := 389) rfl g0 rfl rfl rfl rfl ?_
    refine ex_go (S := (23, [(0, gx_r 383), (1, .inl lw), (2, .inl mo), (3, .inl ot)], [.inl 9, gx_r 389, gx_r 383], t0, n, 0)) rfl (fun _ => rfl) rfl ?_
    refine ex_go (S := (24, [(0, gx_r 383), (1, .inl lw), (2, .inl mo), (3, .inl ot)], [.inl lw, .inl 9, gx_r 389, gx_r 383], t0, n, 0)) rfl (fun _ => rfl) rfl ?_
    refine ex_iadd rfl (by first | decide | omega) rfl ?_
    refine gx_ag (v := .inl s) (cb := fun c => Nat.beq c 0) rfl (fun _ => rfl) g0 rfl rfl k0 (by first | decide | omega) rfl ?_
    obtain ⟨_, r101, v101, t101, rfl, hv101, vb101, g101, e101⟩ := pe_worthAt d n g0 hfh hf hc (by first | decide | omega) hv hr
    refine gx_call1 rfl rfl g0 rfl rfl r101 rfl ?_
    have k2 : ai_hv t101 389 (9 + lw) = some (.inl s) := (e101 389 (9 + lw) (by first | decide | omega)).trans k0
    refine ex_go (S := (31, [(4, .inl v101), (0, gx_r 383), (1, .inl lw), (2, .inl mo), (3, .inl ot)], [], t101, n, 0)) rfl (fun _ => rfl) rfl ?_
    refine ex_go (S := (33, [(4, .inl v101), (0, gx_r 383), (1, .inl lw), (2, .inl mo), (3, .inl ot)], [.inl v101], t101, n, 0)) rfl (fun _ => rfl) rfl ?_
    by_cases hs9 : v101 < 2147483648
    · refine gx_1t (c := .ge) rfl (by first | decide | omega) (show 0 ≤ v101 from by omega) rfl ?_
      refine ex_go (S := (42, [(4, .inl v101), (0, gx_r 383), (1, .inl lw), (2, .inl mo), (3, .inl ot)], [.inl v101], t101, n, 0)) rfl (fun _ => rfl) rfl ?_
      refine ex_go (S := (43, [(4, .inl v101), (0, gx_r 383), (1, .inl lw), (2, .inl mo), (3, .inl ot)], [.inl mo, .inl v101], t101, n, 0)) rfl (fun _ => rfl) rfl ?_
      by_cases hc3 : v101 ≤ mo
      · refine gx_2t (c := .le) rfl (by first | decide | omega) (by first | decide | omega) hc3 rfl ?_
        refine ex_go (S := (52, [(4, .inl v101), (0, gx_r 383), (1, .inl lw), (2, .inl mo), (3, .inl ot)], [.inl v101], t101, n, 0)) rfl (fun _ => rfl) rfl ?_
        refine ex_ret (r := (some (.inl v101), t101, n, 0)) rfl (fun _ => rfl) ?_
        exact ⟨_, rfl, v101, t101, by rw [vcl_n hs9, show min mo v101 = v101 by omega], hv101, g101, (fun c i h => e101 c i (by first | decide | omega))⟩
      · refine gx_2f (c := .le) rfl (by first | decide | omega) (by first | decide | omega) hc3 rfl ?_
        refine ex_go (S := (47, [(4, .inl v101), (0, gx_r 383), (1, .inl lw), (2, .inl mo), (3, .inl ot)], [.inl mo], t101, n, 0)) rfl (fun _ => rfl) rfl ?_
        refine ex_go (S := (52, [(4, .inl v101), (0, gx_r 383), (1, .inl lw), (2, .inl mo), (3, .inl ot)], [.inl mo], t101, n, 0)) rfl (fun _ => rfl) rfl ?_
        refine ex_ret (r := (some (.inl mo), t101, n, 0)) rfl (fun _ => rfl) ?_
        exact ⟨_, rfl, v101, t101, by rw [vcl_n hs9, show min mo v101 = mo by omega], hv101, g101, (fun c i h => e101 c i (by first | decide | omega))⟩
    · refine gx_negf (c := .ge) rfl (by first | decide | omega) (by first | decide | omega) rfl rfl ?_
      refine ex_go (S := (37, [(4, .inl v101), (0, gx_r 383), (1, .inl lw), (2, .inl mo), (3, .inl ot)], [.inl 0], t101, n, 0)) rfl (fun _ => rfl) rfl ?_
      refine ex_go (S := (52, [(4, .inl v101), (0, gx_r 383), (1, .inl lw), (2, .inl mo), (3, .inl ot)], [.inl 0], t101, n, 0)) rfl (fun _ => rfl) rfl ?_
      refine ex_ret (r := (some (.inl 0), t101, n, 0)) rfl (fun _ => rfl) ?_
      exact ⟨_, rfl, v101, t101, by rw [vcl_0 hs9], hv101, g101, (fun c i h => e101 c i (by first | decide | omega))⟩
theorem pe_lookAt (d n : Nat) {t0 : en_H} {day : Nat} {L : List Nat} (g0 : ai_HG ah_G t0) (hd : day < 2147483648) (hL : RLL t0 1 8 L) : ∃ r, en_u (d + 4) 216 [gx_r 383, .inl day] t0 n = some r ∧ ∃ t', r = (some (.inl (wlo L day)), t', n, 0) ∧ ai_HG ah_G t' ∧ (∀ c i, ¬ ((c = 397 ∧ i = 3) ∨ c = 398) → ai_hv t' c i = ai_hv t0 c i) := by
  refine en_u_ex (d := d + 3) rfl ?_
  show en_ex _ _ _ _ (0, [(0, gx_r 383), (1, .inl day)], [], t0, n, 0) _
  refine ex_go (S := (1, [(0, gx_r 383), (1, .inl day)], [gx_r 383], t0, n, 0)) rfl (fun _ => rfl) rfl ?_
  refine gx_ref (c := 397) rfl g0 rfl rfl rfl rfl ?_
  refine ex_go (S := (5, [(0, gx_r 383), (1, .inl day)], [.inl 3, gx_r 397], t0, n, 0)) rfl (fun _ => rfl) rfl ?_
  refine ex_go (S := (6, [(0, gx_r 383), (1, .inl day)], [.inl day, .inl 3, gx_r 397], t0, n, 0)) rfl (fun _ => rfl) rfl ?_
  refine gx_ap rfl (fun _ => rfl) g0 rfl rfl rfl (show 3 < 4 from by omega) rfl (gx_full (by first | decide | omega)) rfl (fun t101 g101 k101 e101 => ?_)
  refine ex_go (S := (8, [(0, gx_r 383), (1, .inl day)], [gx_r 383], t101, n, 0)) rfl (fun _ => rfl) rfl ?_
  refine ex_go (S := (9, [(0, gx_r 383), (1, .inl day)], [.inl 1, gx_r 383], t101, n, 0)) rfl (fun _ => rfl) rfl ?_
  refine ex_go (S := (11, [(0, gx_r 383), (1, .inl day)], [.inl 99, .inl 1, gx_r 383], t101, n, 0)) rfl (fun _ => rfl) rfl ?_
  refine ex_go (S := (12, [(0, gx_r 383), (1, .inl day)], [.inl 1, .inl 99, .inl 1, gx_r 383], t101, n, 0)) rfl (fun _ => rfl) rfl ?_
  obtain ⟨_, r102, v102, t102, rfl, hv102, g102, e102⟩ := pe_lawOf d n (lw := 1) (fh := 8) (mo := 99) (ot := 1) (me := 0) (ti := day) (ou := 0) (L := L) g101 (by decide) (by decide) (by decide) (Or.inr (Or.inl rfl)) ⟨by decide, by omega, by decide, k101, fun z => absurd z (by decide)⟩ (RLL_keep hL (e101 389 (9 + 1) (by first | decide | omega)) (fun c i h => e101 c i (by first | decide | omega))) (fun z => by rw [z]; exact cdf_v1 (by decide))
  have hw102 : wlo L day = vcl 99 v102 := by unfold wlo; rw [hv102]; rfl
  refine gx_call1 rfl rfl g101 rfl rfl r102 rfl ?_
  have k3 : ai_hv t102 397 3 = some (.inl day) := (e102 397 3 (by first | decide | omega)).trans k101
  refine ex_ret (r := (some (.inl (vcl 99 v102)), t102, n, 0)) rfl (fun _ => rfl) ?_
  exact ⟨_, rfl, t102, by rw [hw102], g102, (fun c i h => (e102 c i (by first | decide | omega)).trans (e101 c i (by first | decide | omega)))⟩
theorem pe_costOf (d n : Nat) {t0 : en_H} {f l x a b : Nat} {L : List Nat} (g0 : ai_HG ah_G t0) (hf : f ≤ 30) (hl : l ≤ 30) (hx : x ≤ 29) (ka : ai_hv t0 406 (32 * f + x) = some (.inl a)) (ha : a ≤ 100000) (kb : ai_hv t0 406 (32 * (x + 1) + l) = some (.inl b)) (hb : b ≤ 100000) (hL : RLL t0 1 8 L) : ∃ r, en_u (d + 5) 153 [gx_r 383, .inl f, .inl l, .inl x] t0 n = some r ∧ ∃ t', r = (some (.inl (wlo L x + max a b)), t', n, 0) ∧ ai_HG ah_G t' ∧ (∀ c i, ¬ ((c = 397 ∧ i = 3) ∨ c = 398) → ai_hv t' c i = ai_hv t0 c i) := by
  refine en_u_ex (d := d + 4) rfl ?_
  show en_ex _ _ _ _ (0, [(0, gx_r 383), (1, .inl f), (2, .inl l), (3, .inl x)], [], t0, n, 0) _
  refine ex_go (S := (1, [(0, gx_r 383), (1, .inl f), (2, .inl l), (3, .inl x)], [gx_r 383], t0, n, 0)) rfl (fun _ => rfl) rfl ?_
  refine gx_ref (c := 406) rfl g0 rfl rfl rfl rfl ?_
  refine ex_go (S := (6, [(0, gx_r 383), (1, .inl f), (2, .inl l), (3, .inl x)], [.inl 32, gx_r 406], t0, n, 0)) rfl (fun _ => rfl) rfl ?_
  refine ex_go (S := (7, [(0, gx_r 383), (1, .inl f), (2, .inl l), (3, .inl x)], [.inl f, .inl 32, gx_r 406], t0, n, 0)) rfl (fun _ => rfl) rfl ?_
  refine gx_imul rfl (by first | decide | omega) rfl ?_
  refine ex_go (S := (9, [(0, gx_r 383), (1, .inl f), (2, .inl l), (3, .inl x)], [.inl x, .inl (32 * f), gx_r 406], t0, n, 0)) rfl (fun _ => rfl) rfl ?_
  refine ex_iadd rfl (by first | decide | omega) rfl ?_
  refine gx_ag (v := .inl a) (cb := fun c => Nat.beq c 0) rfl (fun _ => rfl) g0 rfl rfl ka (by first | decide | omega) rfl ?_
  refine ex_go (S := (13, [(4, .inl a), (0, gx_r 383), (1, .inl f), (2, .inl l), (3, .inl x)], [], t0, n, 0)) rfl (fun _ => rfl) rfl ?_
  refine ex_go (S := (14, [(4, .inl a), (0, gx_r 383), (1, .inl f), (2, .inl l), (3, .inl x)], [gx_r 383], t0, n, 0)) rfl (fun _ => rfl) rfl ?_
  refine gx_ref (c := 406) rfl g0 rfl rfl rfl rfl ?_
  refine ex_go (S := (19, [(4, .inl a), (0, gx_r 383), (1, .inl f), (2, .inl l), (3, .inl x)], [.inl 32, gx_r 406], t0, n, 0)) rfl (fun _ => rfl) rfl ?_
  refine ex_go (S := (20, [(4, .inl a), (0, gx_r 383), (1, .inl f), (2, .inl l), (3, .inl x)], [.inl x, .inl 32, gx_r 406], t0, n, 0)) rfl (fun _ => rfl) rfl ?_
  refine ex_go (S := (21, [(4, .inl a), (0, gx_r 383), (1, .inl f), (2, .inl l), (3, .inl x)], [.inl 1, .inl x, .inl 32, gx_r 406], t0, n, 0)) rfl (fun _ => rfl) rfl ?_
  refine ex_iadd rfl (by first | decide | omega) rfl ?_
  refine gx_imul rfl (by first | decide | omega) rfl ?_
  refine ex_go (S := (24, [(4, .inl a), (0, gx_r 383), (1, .inl f), (2, .inl l), (3, .inl x)], [.inl l, .inl (32 * (x + 1)), gx_r 406], t0, n, 0)) rfl (fun _ => rfl) rfl ?_
  refine ex_iadd rfl (by first | decide | omega) rfl ?_
  refine gx_ag (v := .inl b) (cb := fun c => Nat.beq c 0) rfl (fun _ => rfl) g0 rfl rfl kb (by first | decide | omega) rfl ?_
  refine ex_go (S := (28, [(5, .inl b), (4, .inl a), (0, gx_r 383), (1, .inl f), (2, .inl l), (3, .inl x)], [], t0, n, 0)) rfl (fun _ => rfl) rfl ?_
  refine ex_go (S := (29, [(5, .inl b), (4, .inl a), (0, gx_r 383), (1, .inl f), (2, .inl l), (3, .inl x)], [gx_r 383], t0, n, 0)) rfl (fun _ => rfl) rfl ?_
  refine ex_go (S := (30, [(5, .inl b), (4, .inl a), (0, gx_r 383), (1, .inl f), (2, .inl l), (3, .inl x)], [.inl x, gx_r 383], t0, n, 0)) rfl (fun _ => rfl) rfl ?_
  obtain ⟨_, r101, t101, rfl, g101, e101⟩ := pe_lookAt d n (day := x) (L := L) g0 (by first | decide | omega) (RLL_keep hL (rfl) (fun c i h => rfl))
  have hwl : wlo L x ≤ 99 := vcl_le
  refine gx_call1 rfl rfl g0 rfl rfl r101 rfl ?_
  have k2 : ai_hv t101 406 ((32 * f) + x) = some (.inl a) := (e101 406 ((32 * f) + x) (by first | decide | omega)).trans ka
  have k3 : ai_hv t101 406 ((32 * (x + 1)) + l) = some (.inl b) := (e101 406 ((32 * (x + 1)) + l) (by first | decide | omega)).trans kb
  refine ex_go (S := (35, [(5, .inl b), (4, .inl a), (0, gx_r 383), (1, .inl f), (2, .inl l), (3, .inl x)], [.inl a, .inl (wlo L x)], t101, n, 0)) rfl (fun _ => rfl) rfl ?_
  refine ex_go (S := (37, [(5, .inl b), (4, .inl a), (0, gx_r 383), (1, .inl f), (2, .inl l), (3, .inl x)], [.inl b, .inl a, .inl (wlo L x)], t101, n, 0)) rfl (fun _ => rfl) rfl ?_
  by_cases hc4 : a ≤ b
  · refine gx_2t (c := .le) rfl (by first | decide | omega) (by first | decide | omega) hc4 rfl ?_
    refine ex_go (S := (47, [(5, .inl b), (4, .inl a), (0, gx_r 383), (1, .inl f), (2, .inl l), (3, .inl x)], [.inl b, .inl (wlo L x)], t101, n, 0)) rfl (fun _ => rfl) rfl ?_
    refine ex_iadd rfl (by first | decide | omega) rfl ?_
    refine ex_ret (r := (some (.inl ((wlo L x) + b)), t101, n, 0)) rfl (fun _ => rfl) ?_
    exact ⟨_, rfl, t101, by rw [show wlo L x + max a b = (wlo L x) + b by omega], g101, (fun c i h => e101 c i (by first | decide | omega))⟩
  · refine gx_2f (c := .le) rfl (by first | decide | omega) (by first | decide | omega) hc4 rfl ?_
    refine ex_go (S := (42, [(5, .inl b), (4, .inl a), (0, gx_r 383), (1, .inl f), (2, .inl l), (3, .inl x)], [.inl a, .inl (wlo L x)], t101, n, 0)) rfl (fun _ => rfl) rfl ?_
    refine ex_go (S := (47, [(5, .inl b), (4, .inl a), (0, gx_r 383), (1, .inl f), (2, .inl l), (3, .inl x)], [.inl a, .inl (wlo L x)], t101, n, 0)) rfl (fun _ => rfl) rfl ?_
    refine ex_iadd rfl (by first | decide | omega) rfl ?_
    refine ex_ret (r := (some (.inl ((wlo L x) + a)), t101, n, 0)) rfl (fun _ => rfl) ?_
    exact ⟨_, rfl, t101, by rw [show wlo L x + max a b = (wlo L x) + a by omega], g101, (fun c i h => e101 c i (by first | decide | omega))⟩
theorem pe_bestLook_l (d n : Nat) {tb : en_H} {f l : Nat} {L : List Nat} (hf : 1 ≤ f) (hl : l ≤ 30) (hW : ∀ d, wlo L d ≤ 99) (hT : ∀ x, f ≤ x → x < l → ai_hv tb 406 (32 * f + x) = some (.inl (LT (wlo L) f x)) ∧ ai_hv tb 406 (32 * (x + 1) + l) = some (.inl (LT (wlo L) (x + 1) l))) (hL : RLL tb 1 8 L) : ∀ j k t0, f + k + 1 + j = l → ai_HG ah_G t0 → (∀ c i, ¬ ((c = 397 ∧ i = 3) ∨ c = 398) → ai_hv t0 c i = ai_hv tb c i) → en_ex none (en_u (d + 5)) (en_code 152) (fun _ => false) (7, [(4, .inl (f + k + 1)), (3, .inl (lb (lK (wlo L) (LT (wlo L)) f l) f k)), (0, gx_r 383), (1, .inl f), (2, .inl l)], [], t0, n, 0) (fun o => ∃ r, o = .inl r ∧ ∃ t', r = (some (.inl (lb (lK (wlo L) (LT (wlo L)) f l) f (l - f - 1))), t', n, 0) ∧ ai_HG ah_G t' ∧ (∀ c i, ¬ ((c = 397 ∧ i = 3) ∨ c = 398) → ai_hv t' c i = ai_hv tb c i)) := by
  intro j
  induction j with
  | zero =>
    intro k t0 hk g0 e0
    have hbi := lb_in (lK (wlo L) (LT (wlo L)) f l) f k
    refine ex_go (S := (9, [(4, .inl (f + k + 1)), (3, .inl (lb (lK (wlo L) (LT (wlo L)) f l) f k)), (0, gx_r 383), (1, .inl f), (2, .inl l)], [.inl (f + k + 1)], t0, n, 0)) rfl (fun _ => rfl) rfl ?_
    refine ex_go (S := (10, [(4, .inl (f + k + 1)), (3, .inl (lb (lK (wlo L) (LT (wlo L)) f l) f k)), (0, gx_r 383), (1, .inl f), (2, .inl l)], [.inl l, .inl (f + k + 1)], t0, n, 0)) rfl (fun _ => rfl) rfl ?_
    refine gx_2t (c := .ge) rfl (by first | decide | omega) (by first | decide | omega) (show l ≤ f + k + 1 from by omega) rfl ?_
    refine ex_go (S := (45, [(4, .inl (f + k + 1)), (3, .inl (lb (lK (wlo L) (LT (wlo L)) f l) f k)), (0, gx_r 383), (1, .inl f), (2, .inl l)], [.inl (lb (lK (wlo L) (LT (wlo L)) f l) f k)], t0, n, 0)) rfl (fun _ => rfl) rfl ?_
    refine ex_ret (r := (some (.inl (lb (lK (wlo L) (LT (wlo L)) f l) f k)), t0, n, 0)) rfl (fun _ => rfl) ?_
    have hkl : l - f - 1 = k := by omega
    rw [hkl]
    exact ⟨_, rfl, t0, rfl, g0, e0⟩
  | succ j ih =>
    intro k t0 hk g0 e0
    have hbi := lb_in (lK (wlo L) (LT (wlo L)) f l) f k
    refine ex_go (S := (9, [(4, .inl (f + k + 1)), (3, .inl (lb (lK (wlo L) (LT (wlo L)) f l) f k)), (0, gx_r 383), (1, .inl f), (2, .inl l)], [.inl (f + k + 1)], t0, n, 0)) rfl (fun _ => rfl) rfl ?_
    refine ex_go (S := (10, [(4, .inl (f + k + 1)), (3, .inl (lb (lK (wlo L) (LT (wlo L)) f l) f k)), (0, gx_r 383), (1, .inl f), (2, .inl l)], [.inl l, .inl (f + k + 1)], t0, n, 0)) rfl (fun _ => rfl) rfl ?_
    refine gx_2f (c := .ge) rfl (by first | decide | omega) (by first | decide | omega) (show ¬ (l ≤ f + k + 1) from by omega) rfl ?_
    refine ex_go (S := (14, [(4, .inl (f + k + 1)), (3, .inl (lb (lK (wlo L) (LT (wlo L)) f l) f k)), (0, gx_r 383), (1, .inl f), (2, .inl l)], [gx_r 383], t0, n, 0)) rfl (fun _ => rfl) rfl ?_
    refine ex_go (S := (15, [(4, .inl (f + k + 1)), (3, .inl (lb (lK (wlo L) (LT (wlo L)) f l) f k)), (0, gx_r 383), (1, .inl f), (2, .inl l)], [.inl f, gx_r 383], t0, n, 0)) rfl (fun _ => rfl) rfl ?_
    refine ex_go (S := (16, [(4, .inl (f + k + 1)), (3, .inl (lb (lK (wlo L) (LT (wlo L)) f l) f k)), (0, gx_r 383), (1, .inl f), (2, .inl l)], [.inl l, .inl f, gx_r 383], t0, n, 0)) rfl (fun _ => rfl) rfl ?_
    refine ex_go (S := (18, [(4, .inl (f + k + 1)), (3, .inl (lb (lK (wlo L) (LT (wlo L)) f l) f k)), (0, gx_r 383), (1, .inl f), (2, .inl l)], [.inl (f + k + 1), .inl l, .inl f, gx_r 383], t0, n, 0)) rfl (fun _ => rfl) rfl ?_
    have hT101 := hT (f + k + 1) (by first | decide | omega) (by first | decide | omega)
    have hb101a := LT_b (W := wlo L) hW (f := f) (l := f + k + 1) (by first | decide | omega)
    have hb101b := LT_b (W := wlo L) hW (f := (f + k + 1) + 1) (l := l) (by first | decide | omega)
    obtain ⟨_, r101, t101, rfl, g101, e101⟩ := pe_costOf d n (L := L) (x := (f + k + 1)) g0 (by first | decide | omega) (by first | decide | omega) (by first | decide | omega) ((e0 406 (32 * f + (f + k + 1)) (by first | decide | omega)).trans hT101.1) (by first | decide | omega) ((e0 406 (32 * ((f + k + 1) + 1) + l) (by first | decide | omega)).trans hT101.2) (by first | decide | omega) (RLL_keep hL (e0 389 (9 + 1) (by first | decide | omega)) (fun c i h => e0 c i (by first | decide | omega)))
    have hc101 : wlo L (f + k + 1) + max (LT (wlo L) f (f + k + 1)) (LT (wlo L) ((f + k + 1) + 1) l) = lK (wlo L) (LT (wlo L)) f l (f + k + 1) := rfl
    rw [hc101] at r101
    have hk101 := lK_b (W := wlo L) hW (f := f) (l := l) (d := f + k + 1) (by first | decide | omega) (by first | decide | omega)
    refine gx_call1 rfl rfl g0 rfl rfl r101 rfl ?_
    show en_ex _ _ _ _ (21, [(4, .inl (f + k + 1)), (3, .inl (lb (lK (wlo L) (LT (wlo L)) f l) f k)), (0, gx_r 383), (1, .inl f), (2, .inl l)], [.inl (lK (wlo L) (LT (wlo L)) f l (f + k + 1))], t101, n, 0) _
    refine ex_go (S := (22, [(4, .inl (f + k + 1)), (3, .inl (lb (lK (wlo L) (LT (wlo L)) f l) f k)), (0, gx_r 383), (1, .inl f), (2, .inl l)], [gx_r 383, .inl (lK (wlo L) (LT (wlo L)) f l (f + k + 1))], t101, n, 0)) rfl (fun _ => rfl) rfl ?_
    refine ex_go (S := (23, [(4, .inl (f + k + 1)), (3, .inl (lb (lK (wlo L) (LT (wlo L)) f l) f k)), (0, gx_r 383), (1, .inl f), (2, .inl l)], [.inl f, gx_r 383, .inl (lK (wlo L) (LT (wlo L)) f l (f + k + 1))], t101, n, 0)) rfl (fun _ => rfl) rfl ?_
    refine ex_go (S := (24, [(4, .inl (f + k + 1)), (3, .inl (lb (lK (wlo L) (LT (wlo L)) f l) f k)), (0, gx_r 383), (1, .inl f), (2, .inl l)], [.inl l, .inl f, gx_r 383, .inl (lK (wlo L) (LT (wlo L)) f l (f + k + 1))], t101, n, 0)) rfl (fun _ => rfl) rfl ?_
    refine ex_go (S := (25, [(4, .inl (f + k + 1)), (3, .inl (lb (lK (wlo L) (LT (wlo L)) f l) f k)), (0, gx_r 383), (1, .inl f), (2, .inl l)], [.inl (lb (lK (wlo L) (LT (wlo L)) f l) f k), .inl l, .inl f, gx_r 383, .inl (lK (wlo L) (LT (wlo L)) f l (f + k + 1))], t101, n, 0)) rfl (fun _ => rfl) rfl ?_
    have hT102 := hT (lb (lK (wlo L) (LT (wlo L)) f l) f k) (by first | decide | omega) (by first | decide | omega)
    have hb102a := LT_b (W := wlo L) hW (f := f) (l := lb (lK (wlo L) (LT (wlo L)) f l) f k) (by first | decide | omega)
    have hb102b := LT_b (W := wlo L) hW (f := (lb (lK (wlo L) (LT (wlo L)) f l) f k) + 1) (l := l) (by first | decide | omega)
    obtain ⟨_, r102, t102, rfl, g102, e102⟩ := pe_costOf d n (L := L) (x := (lb (lK (wlo L) (LT (wlo L)) f l) f k)) g101 (by first | decide | omega) (by first | decide | omega) (by first | decide | omega) (((e101 406 (32 * f + (lb (lK (wlo L) (LT (wlo L)) f l) f k)) (by first | decide | omega)).trans (e0 406 (32 * f + (lb (lK (wlo L) (LT (wlo L)) f l) f k)) (by first | decide | omega))).trans hT102.1) (by first | decide | omega) (((e101 406 (32 * ((lb (lK (wlo L) (LT (wlo L)) f l) f k) + 1) + l) (by first | decide | omega)).trans (e0 406 (32 * ((lb (lK (wlo L) (LT (wlo L)) f l) f k) + 1) + l) (by first | decide | omega))).trans hT102.2) (by first | decide | omega) (RLL_keep hL ((e101 389 (9 + 1) (by first | decide | omega)).trans (e0 389 (9 + 1) (by first | decide | omega))) (fun c i h => (e101 c i (by first | decide | omega)).trans (e0 c i (by first | decide | omega))))
    have hc102 : wlo L (lb (lK (wlo L) (LT (wlo L)) f l) f k) + max (LT (wlo L) f (lb (lK (wlo L) (LT (wlo L)) f l) f k)) (LT (wlo L) ((lb (lK (wlo L) (LT (wlo L)) f l) f k) + 1) l) = lK (wlo L) (LT (wlo L)) f l (lb (lK (wlo L) (LT (wlo L)) f l) f k) := rfl
    rw [hc102] at r102
    have hk102 := lK_b (W := wlo L) hW (f := f) (l := l) (d := lb (lK (wlo L) (LT (wlo L)) f l) f k) (by first | decide | omega) (by first | decide | omega)
    refine gx_call1 rfl rfl g101 rfl rfl r102 rfl ?_
    show en_ex _ _ _ _ (28, [(4, .inl (f + k + 1)), (3, .inl (lb (lK (wlo L) (LT (wlo L)) f l) f k)), (0, gx_r 383), (1, .inl f), (2, .inl l)], [.inl (lK (wlo L) (LT (wlo L)) f l (lb (lK (wlo L) (LT (wlo L)) f l) f k)), .inl (lK (wlo L) (LT (wlo L)) f l (f + k + 1))], t102, n, 0) _
    by_cases hlt : lK (wlo L) (LT (wlo L)) f l (f + k + 1) < lK (wlo L) (LT (wlo L)) f l (lb (lK (wlo L) (LT (wlo L)) f l) f k)
    · refine gx_2f (c := .ge) rfl (by first | decide | omega) (by first | decide | omega) (show ¬ (lK (wlo L) (LT (wlo L)) f l (lb (lK (wlo L) (LT (wlo L)) f l) f k) ≤ lK (wlo L) (LT (wlo L)) f l (f + k + 1)) from by omega) rfl ?_
      refine ex_go (S := (33, [(4, .inl (f + k + 1)), (3, .inl (lb (lK (wlo L) (LT (wlo L)) f l) f k)), (0, gx_r 383), (1, .inl f), (2, .inl l)], [.inl (f + k + 1)], t102, n, 0)) rfl (fun _ => rfl) rfl ?_
      refine ex_go (S := (37, [(4, .inl (f + k + 1)), (3, .inl (lb (lK (wlo L) (LT (wlo L)) f l) f k)), (0, gx_r 383), (1, .inl f), (2, .inl l)], [.inl (f + k + 1)], t102, n, 0)) rfl (fun _ => rfl) rfl ?_
      refine ex_go (S := (38, [(3, .inl (f + k + 1)), (4, .inl (f + k + 1)), (0, gx_r 383), (1, .inl f), (2, .inl l)], [], t102, n, 0)) rfl (fun _ => rfl) rfl ?_
      refine gx_iinc (i := 4) (k := 1) rfl (fun _ => rfl) (by first | decide | omega) rfl ?_
      show en_ex _ _ _ _ (41, [(4, .inl ((f + k + 1) + 1)), (3, .inl (f + k + 1)), (0, gx_r 383), (1, .inl f), (2, .inl l)], [], t102, n, 0) _
      refine ex_go (S := (7, [(4, .inl ((f + k + 1) + 1)), (3, .inl (f + k + 1)), (0, gx_r 383), (1, .inl f), (2, .inl l)], [], t102, n, 0)) rfl (fun _ => rfl) rfl ?_
      have hs : lb (lK (wlo L) (LT (wlo L)) f l) f (k + 1) = f + k + 1 := if_pos hlt
      have hi := ih (k + 1) t102 (by first | decide | omega) g102 (fun c i h => ((e102 c i (by first | decide | omega)).trans (e101 c i (by first | decide | omega))).trans (e0 c i h))
      rw [hs] at hi
      exact hi
    · refine gx_2t (c := .ge) rfl (by first | decide | omega) (by first | decide | omega) (show lK (wlo L) (LT (wlo L)) f l (lb (lK (wlo L) (LT (wlo L)) f l) f k) ≤ lK (wlo L) (LT (wlo L)) f l (f + k + 1) from by omega) rfl ?_
      refine ex_go (S := (37, [(4, .inl (f + k + 1)), (3, .inl (lb (lK (wlo L) (LT (wlo L)) f l) f k)), (0, gx_r 383), (1, .inl f), (2, .inl l)], [.inl (lb (lK (wlo L) (LT (wlo L)) f l) f k)], t102, n, 0)) rfl (fun _ => rfl) rfl ?_
      refine ex_go (S := (38, [(3, .inl (lb (lK (wlo L) (LT (wlo L)) f l) f k)), (4, .inl (f + k + 1)), (0, gx_r 383), (1, .inl f), (2, .inl l)], [], t102, n, 0)) rfl (fun _ => rfl) rfl ?_
      refine gx_iinc (i := 4) (k := 1) rfl (fun _ => rfl) (by first | decide | omega) rfl ?_
      show en_ex _ _ _ _ (41, [(4, .inl ((f + k + 1) + 1)), (3, .inl (lb (lK (wlo L) (LT (wlo L)) f l) f k)), (0, gx_r 383), (1, .inl f), (2, .inl l)], [], t102, n, 0) _
      refine ex_go (S := (7, [(4, .inl ((f + k + 1) + 1)), (3, .inl (lb (lK (wlo L) (LT (wlo L)) f l) f k)), (0, gx_r 383), (1, .inl f), (2, .inl l)], [], t102, n, 0)) rfl (fun _ => rfl) rfl ?_
      have hs : lb (lK (wlo L) (LT (wlo L)) f l) f (k + 1) = lb (lK (wlo L) (LT (wlo L)) f l) f k := if_neg hlt
      have hi := ih (k + 1) t102 (by first | decide | omega) g102 (fun c i h => ((e102 c i (by first | decide | omega)).trans (e101 c i (by first | decide | omega))).trans (e0 c i h))
      rw [hs] at hi
      exact hi
theorem pe_bestLook (d n : Nat) {tb : en_H} {f l : Nat} {L : List Nat} (hf : 1 ≤ f) (hl : l ≤ 30) (hW : ∀ d, wlo L d ≤ 99) (hT : ∀ x, f ≤ x → x < l → ai_hv tb 406 (32 * f + x) = some (.inl (LT (wlo L) f x)) ∧ ai_hv tb 406 (32 * (x + 1) + l) = some (.inl (LT (wlo L) (x + 1) l))) (hL : RLL tb 1 8 L) (hfl : f < l) (g0 : ai_HG ah_G tb) : ∃ r, en_u (d + 6) 152 [gx_r 383, .inl f, .inl l] tb n = some r ∧ ∃ t', r = (some (.inl (lb (lK (wlo L) (LT (wlo L)) f l) f (l - f - 1))), t', n, 0) ∧ ai_HG ah_G t' ∧ (∀ c i, ¬ ((c = 397 ∧ i = 3) ∨ c = 398) → ai_hv t' c i = ai_hv tb c i) := by
  refine en_u_ex (d := d + 5) rfl ?_
  show en_ex _ _ _ _ (0, [(0, gx_r 383), (1, .inl f), (2, .inl l)], [], tb, n, 0) _
  refine ex_go (S := (1, [(0, gx_r 383), (1, .inl f), (2, .inl l)], [.inl f], tb, n, 0)) rfl (fun _ => rfl) rfl ?_
  refine ex_go (S := (2, [(3, .inl f), (0, gx_r 383), (1, .inl f), (2, .inl l)], [], tb, n, 0)) rfl (fun _ => rfl) rfl ?_
  refine ex_go (S := (3, [(3, .inl f), (0, gx_r 383), (1, .inl f), (2, .inl l)], [.inl f], tb, n, 0)) rfl (fun _ => rfl) rfl ?_
  refine ex_go (S := (4, [(3, .inl f), (0, gx_r 383), (1, .inl f), (2, .inl l)], [.inl 1, .inl f], tb, n, 0)) rfl (fun _ => rfl) rfl ?_
  refine ex_iadd rfl (by first | decide | omega) rfl ?_
  refine ex_go (S := (7, [(4, .inl (f + 1)), (3, .inl f), (0, gx_r 383), (1, .inl f), (2, .inl l)], [], tb, n, 0)) rfl (fun _ => rfl) rfl ?_
  exact pe_bestLook_l d n hf hl hW hT hL (l - f - 1) 0 tb (by first | decide | omega) g0 (fun _ _ _ => rfl)
/-- what is found of the days from f to l: all that lie nearer than k, and k apart those that begin ahead of F -/
noncomputable def LI (t : en_H) (W : Nat → Nat) (days k F : Nat) : Prop := ∀ f l, 1 ≤ f → f ≤ l → l ≤ days → (l - f < k ∨ (l - f = k ∧ f < F)) → ai_hv t 406 (32 * f + l) = some (.inl (LT W f l))
noncomputable def lostv (W : Nat → Nat) (days what : Nat) : Nat := if what = 0 then LT W 1 days else if days = 1 then 4294967295 else lb (lK W (LT W) 1 days) 1 (days - 1 - 1)
theorem pe_lost_in (d n : Nat) {tb : en_H} {days wh k : Nat} {L : List Nat} {Q : en_O → Prop} (hd1 : 1 ≤ days) (hd2 : days ≤ 30) (hW : ∀ d, wlo L d ≤ 99) (hL : RLL tb 1 8 L) (hk : k < days) (hwh : wh ≤ 1) (hQ : ∀ cl t1, ai_HG ah_G t1 → (∀ c i, ¬ (c = 406 ∨ (c = 397 ∧ i = 3) ∨ c = 398) → ai_hv t1 c i = ai_hv tb c i) → LI t1 (wlo L) days (k + 1) 1 → en_ld cl 0 = some (gx_r 383) → en_ld cl 1 = some (.inl days) → en_ld cl 2 = some (.inl wh) → en_ld cl 3 = some (.inl k) → en_ex none (en_u (d + 6)) (en_code 76) (fun _ => false) (93, cl, [], t1, n, 0) Q) : ∀ j F cl t0, F + k + j = days + 1 → 1 ≤ F → ai_HG ah_G t0 → (∀ c i, ¬ (c = 406 ∨ (c = 397 ∧ i = 3) ∨ c = 398) → ai_hv t0 c i = ai_hv tb c i) → LI t0 (wlo L) days k F → en_ld cl 0 = some (gx_r 383) → en_ld cl 1 = some (.inl days) → en_ld cl 2 = some (.inl wh) → en_ld cl 3 = some (.inl k) → en_ld cl 4 = some (.inl F) → en_ex none (en_u (d + 6)) (en_code 76) (fun _ => false) (36, cl, [], t0, n, 0) Q := by
  intro j
  induction j with
  | zero =>
    intro F cl t0 hj hF g0 e0 hI h0 h1 h2 h3 h4
    refine gx_ld (i := 4) (d := 0) (v := .inl F) rfl (fun _ => rfl) h4 rfl rfl ?_
    refine gx_ld (i := 3) (d := 0) (v := .inl k) rfl (fun _ => rfl) h3 rfl rfl ?_
    refine ex_iadd rfl (by first | decide | omega) rfl ?_
    refine gx_ld (i := 1) (d := 0) (v := .inl days) rfl (fun _ => rfl) h1 rfl rfl ?_
    refine gx_2t (c := .gt) rfl (by first | decide | omega) (by first | decide | omega) (show days < F + k from by omega) rfl ?_
    exact hQ _ t0 g0 e0 (fun f l a1 a2 a3 a4 => hI f l a1 a2 a3 (by first | decide | omega)) h0 h1 h2 h3
  | succ j ih =>
    intro F cl t0 hj hF g0 e0 hI h0 h1 h2 h3 h4
    refine gx_ld (i := 4) (d := 0) (v := .inl F) rfl (fun _ => rfl) h4 rfl rfl ?_
    refine gx_ld (i := 3) (d := 0) (v := .inl k) rfl (fun _ => rfl) h3 rfl rfl ?_
    refine ex_iadd rfl (by first | decide | omega) rfl ?_
    refine gx_ld (i := 1) (d := 0) (v := .inl days) rfl (fun _ => rfl) h1 rfl rfl ?_
    refine gx_2f (c := .gt) rfl (by first | decide | omega) (by first | decide | omega) (show ¬ (days < F + k) from by omega) rfl ?_
    refine gx_ld (i := 4) (d := 0) (v := .inl F) rfl (fun _ => rfl) h4 rfl rfl ?_
    refine gx_ld (i := 3) (d := 0) (v := .inl k) rfl (fun _ => rfl) h3 rfl rfl ?_
    refine ex_iadd rfl (by first | decide | omega) rfl ?_
    refine gx_sto (i := 5) (d := 0) rfl (fun _ => rfl) rfl rfl (fun l1 hl1 ml1 => ?_)
    have l1_0 : en_ld l1 0 = some (gx_r 383) := ml1 0 _ h0 rfl
    have l1_1 : en_ld l1 1 = some (.inl days) := ml1 1 _ h1 rfl
    have l1_2 : en_ld l1 2 = some (.inl wh) := ml1 2 _ h2 rfl
    have l1_3 : en_ld l1 3 = some (.inl k) := ml1 3 _ h3 rfl
    have l1_4 : en_ld l1 4 = some (.inl F) := ml1 4 _ h4 rfl
    refine gx_ld (i := 0) (d := 2) (v := gx_r 383) rfl (fun _ => rfl) l1_0 rfl rfl ?_
    refine gx_ref (c := 406) rfl g0 rfl rfl rfl rfl ?_
    refine ex_go (S := (56, l1, [.inl 32, gx_r 406], t0, n, 0)) rfl (fun _ => rfl) rfl ?_
    refine gx_ld (i := 4) (d := 0) (v := .inl F) rfl (fun _ => rfl) l1_4 rfl rfl ?_
    refine gx_imul rfl (by first | decide | omega) rfl ?_
    refine gx_ld (i := 5) (d := 0) (v := .inl (F + k)) rfl (fun _ => rfl) hl1 rfl rfl ?_
    refine ex_iadd rfl (by first | decide | omega) rfl ?_
    refine gx_ld (i := 3) (d := 0) (v := .inl k) rfl (fun _ => rfl) l1_3 rfl rfl ?_
    by_cases hc2 : k ≠ 0
    · refine gx_1t (c := .ne) rfl (by first | decide | omega) hc2 rfl ?_
      refine gx_ld (i := 0) (d := 2) (v := gx_r 383) rfl (fun _ => rfl) l1_0 rfl rfl ?_
      refine gx_ld (i := 4) (d := 0) (v := .inl F) rfl (fun _ => rfl) l1_4 rfl rfl ?_
      refine gx_ld (i := 5) (d := 0) (v := .inl (F + k)) rfl (fun _ => rfl) hl1 rfl rfl ?_
      refine gx_ld (i := 0) (d := 2) (v := gx_r 383) rfl (fun _ => rfl) l1_0 rfl rfl ?_
      refine gx_ld (i := 4) (d := 0) (v := .inl F) rfl (fun _ => rfl) l1_4 rfl rfl ?_
      refine gx_ld (i := 5) (d := 0) (v := .inl (F + k)) rfl (fun _ => rfl) hl1 rfl rfl ?_
      obtain ⟨_, r103, t103, rfl, g103, e103⟩ := pe_bestLook (tb := t0) d n (f := F) (l := (F + k)) (L := L) (by first | decide | omega) (by first | decide | omega) hW (fun x h1 h2 => ⟨(rfl).trans (hI F x (by first | decide | omega) (by first | decide | omega) (by first | decide | omega) (by first | decide | omega)), (rfl).trans (hI (x + 1) (F + k) (by first | decide | omega) (by first | decide | omega) (by first | decide | omega) (by first | decide | omega))⟩) (RLL_keep hL (e0 389 (9 + 1) (by first | decide | omega)) (fun c i h => e0 c i (by first | decide | omega))) (by first | decide | omega) g0
      have hbi := lb_in (lK (wlo L) (LT (wlo L)) F (F + k)) F ((F + k) - F - 1)
      obtain ⟨bb, hbb⟩ : ∃ b, b = lb (lK (wlo L) (LT (wlo L)) F (F + k)) F ((F + k) - F - 1) := ⟨_, rfl⟩
      rw [← hbb] at r103 hbi
      refine gx_call1 rfl rfl g0 rfl rfl r103 rfl ?_
      show en_ex _ _ _ _ (83, l1, [.inl bb, .inl (F + k), .inl F, gx_r 383, .inl ((32 * F) + (F + k)), gx_r 406], t103, n, 0) _
      have hb104a := LT_b (W := wlo L) hW (f := F) (l := bb) (by first | decide | omega)
      have hb104b := LT_b (W := wlo L) hW (f := bb + 1) (l := (F + k)) (by first | decide | omega)
      obtain ⟨_, r104, t104, rfl, g104, e104⟩ := pe_costOf (d + 1) n (L := L) (f := F) (l := (F + k)) (x := bb) g103 (by first | decide | omega) (by first | decide | omega) (by first | decide | omega) ((e103 406 (32 * F + bb) (by first | decide | omega)).trans (hI F bb (by first | decide | omega) (by first | decide | omega) (by first | decide | omega) (by first | decide | omega))) (by first | decide | omega) ((e103 406 (32 * (bb + 1) + (F + k)) (by first | decide | omega)).trans (hI (bb + 1) (F + k) (by first | decide | omega) (by first | decide | omega) (by first | decide | omega) (by first | decide | omega))) (by first | decide | omega) (RLL_keep hL ((e103 389 (9 + 1) (by first | decide | omega)).trans (e0 389 (9 + 1) (by first | decide | omega))) (fun c i h => (e103 c i (by first | decide | omega)).trans (e0 c i (by first | decide | omega))))
      have hv104 : wlo L bb + max (LT (wlo L) F bb) (LT (wlo L) (bb + 1) (F + k)) = LT (wlo L) F (F + k) := by rw [LT_step (W := wlo L) (f := F) (l := (F + k)) (by first | decide | omega), ← hbb]; rfl
      rw [hv104] at r104
      have hb104c := LT_b (W := wlo L) hW (f := F) (l := (F + k)) (by first | decide | omega)
      refine gx_call1 rfl rfl g103 rfl rfl r104 rfl ?_
      show en_ex _ _ _ _ (86, l1, [.inl (LT (wlo L) F (F + k)), .inl ((32 * F) + (F + k)), gx_r 406], t104, n, 0) _
      refine gx_ap rfl (fun _ => rfl) g104 rfl rfl rfl (show (32 * F) + (F + k) < 1024 from by omega) (gx_run1 (show (32 * F) + (F + k) < 1024 from by omega)) (gx_full (by first | decide | omega)) rfl (fun t105 g105 k105 e105 => ?_)
      refine gx_incS (i := 4) (a := F) (x := 1) rfl (fun _ => rfl) l1_4 (by first | decide | omega) rfl (fun l6 hl6 ml6 => ?_)
      have l6_0 : en_ld l6 0 = some (gx_r 383) := ml6 0 _ l1_0 rfl
      have l6_1 : en_ld l6 1 = some (.inl days) := ml6 1 _ l1_1 rfl
      have l6_2 : en_ld l6 2 = some (.inl wh) := ml6 2 _ l1_2 rfl
      have l6_3 : en_ld l6 3 = some (.inl k) := ml6 3 _ l1_3 rfl
      have l6_5 : en_ld l6 5 = some (.inl (F + k)) := ml6 5 _ hl1 rfl
      refine ex_go (S := (36, l6, [], t105, n, 0)) rfl (fun _ => rfl) rfl ?_
      have hI2 : LI t105 (wlo L) days k (F + 1) := fun f l a1 a2 a3 a4 => by
        by_cases e9 : f = F ∧ l = F + k
        · obtain ⟨e8, e7⟩ := e9
          subst e8
          rw [e7]
          exact k105
        · exact ((e105 406 (32 * f + l) (by first | decide | omega)).trans ((e104 406 (32 * f + l) (by first | decide | omega)).trans (e103 406 (32 * f + l) (by first | decide | omega)))).trans (hI f l a1 a2 a3 (by first | decide | omega))
      exact ih (F + 1) _ t105 (by first | decide | omega) (by first | decide | omega) g105 (fun c i h => ((e105 c i (by first | decide | omega)).trans ((e104 c i (by first | decide | omega)).trans (e103 c i (by first | decide | omega)))).trans (e0 c i h)) hI2 l6_0 l6_1 l6_2 l6_3 hl6
    · refine gx_1f (c := .ne) rfl (by first | decide | omega) hc2 rfl ?_
      refine ex_go (S := (67, l1, [.inl 0, .inl ((32 * F) + (F + k)), gx_r 406], t0, n, 0)) rfl (fun _ => rfl) rfl ?_
      refine ex_go (S := (86, l1, [.inl 0, .inl ((32 * F) + (F + k)), gx_r 406], t0, n, 0)) rfl (fun _ => rfl) rfl ?_
      refine gx_ap rfl (fun _ => rfl) g0 rfl rfl rfl (show (32 * F) + (F + k) < 1024 from by omega) (gx_run1 (show (32 * F) + (F + k) < 1024 from by omega)) (gx_full (by first | decide | omega)) rfl (fun t107 g107 k107 e107 => ?_)
      refine gx_incS (i := 4) (a := F) (x := 1) rfl (fun _ => rfl) l1_4 (by first | decide | omega) rfl (fun l8 hl8 ml8 => ?_)
      have l8_0 : en_ld l8 0 = some (gx_r 383) := ml8 0 _ l1_0 rfl
      have l8_1 : en_ld l8 1 = some (.inl days) := ml8 1 _ l1_1 rfl
      have l8_2 : en_ld l8 2 = some (.inl wh) := ml8 2 _ l1_2 rfl
      have l8_3 : en_ld l8 3 = some (.inl k) := ml8 3 _ l1_3 rfl
      have l8_5 : en_ld l8 5 = some (.inl (F + k)) := ml8 5 _ hl1 rfl
      refine ex_go (S := (36, l8, [], t107, n, 0)) rfl (fun _ => rfl) rfl ?_
      have hI2 : LI t107 (wlo L) days k (F + 1) := fun f l a1 a2 a3 a4 => by
        by_cases e9 : f = F ∧ l = F + k
        · obtain ⟨e8, e7⟩ := e9
          subst e8
          rw [e7]
          rw [LT_0 (show f + k ≤ f by omega)]; exact k107
        · exact (e107 406 (32 * f + l) (by first | decide | omega)).trans (hI f l a1 a2 a3 (by first | decide | omega))
      exact ih (F + 1) _ t107 (by first | decide | omega) (by first | decide | omega) g107 (fun c i h => (e107 c i (by first | decide | omega)).trans (e0 c i h)) hI2 l8_0 l8_1 l8_2 l8_3 hl8
theorem pe_lost_out (d n : Nat) {tb : en_H} {days wh : Nat} {L : List Nat} {Q : en_O → Prop} (hd1 : 1 ≤ days) (hd2 : days ≤ 30) (hW : ∀ d, wlo L d ≤ 99) (hL : RLL tb 1 8 L) (hwh : wh ≤ 1) (hQ : ∀ cl t1, ai_HG ah_G t1 → (∀ c i, ¬ (c = 406 ∨ (c = 397 ∧ i = 3) ∨ c = 398) → ai_hv t1 c i = ai_hv tb c i) → LI t1 (wlo L) days days 1 → en_ld cl 0 = some (gx_r 383) → en_ld cl 1 = some (.inl days) → en_ld cl 2 = some (.inl wh) → en_ld cl 3 = some (.inl days) → en_ex none (en_u (d + 6)) (en_code 76) (fun _ => false) (99, cl, [], t1, n, 0) Q) : ∀ j k cl t0, k + j = days → ai_HG ah_G t0 → (∀ c i, ¬ (c = 406 ∨ (c = 397 ∧ i = 3) ∨ c = 398) → ai_hv t0 c i = ai_hv tb c i) → LI t0 (wlo L) days k 1 → en_ld cl 0 = some (gx_r 383) → en_ld cl 1 = some (.inl days) → en_ld cl 2 = some (.inl wh) → en_ld cl 3 = some (.inl k) → en_ex none (en_u (d + 6)) (en_code 76) (fun _ => false) (28, cl, [], t0, n, 0) Q := by
  intro j
  induction j with
  | zero =>
    intro k cl t0 hj g0 e0 hI h0 h1 h2 h3
    have hk : k = days := by omega
    subst hk
    refine gx_ld (i := 3) (d := 0) (v := .inl k) rfl (fun _ => rfl) h3 rfl rfl ?_
    refine gx_ld (i := 1) (d := 0) (v := .inl k) rfl (fun _ => rfl) h1 rfl rfl ?_
    refine gx_2t (c := .ge) rfl (by first | decide | omega) (by first | decide | omega) (show k ≤ k from by omega) rfl ?_
    exact hQ _ t0 g0 e0 hI h0 h1 h2 h3
  | succ j ih =>
    intro k cl t0 hj g0 e0 hI h0 h1 h2 h3
    refine gx_ld (i := 3) (d := 0) (v := .inl k) rfl (fun _ => rfl) h3 rfl rfl ?_
    refine gx_ld (i := 1) (d := 0) (v := .inl days) rfl (fun _ => rfl) h1 rfl rfl ?_
    refine gx_2f (c := .ge) rfl (by first | decide | omega) (by first | decide | omega) (show ¬ (days ≤ k) from by omega) rfl ?_
    refine ex_go (S := (34, cl, [.inl 1], t0, n, 0)) rfl (fun _ => rfl) rfl ?_
    refine gx_sto (i := 4) (d := 0) rfl (fun _ => rfl) rfl rfl (fun l1 hl1 ml1 => ?_)
    have l1_0 : en_ld l1 0 = some (gx_r 383) := ml1 0 _ h0 rfl
    have l1_1 : en_ld l1 1 = some (.inl days) := ml1 1 _ h1 rfl
    have l1_2 : en_ld l1 2 = some (.inl wh) := ml1 2 _ h2 rfl
    have l1_3 : en_ld l1 3 = some (.inl k) := ml1 3 _ h3 rfl
    refine pe_lost_in d n (tb := tb) hd1 hd2 hW hL (by first | decide | omega) hwh (fun cl1 t1 g1 e1 hI1 m0 m1 m2 m3 => ?_) (days - k) 1 _ t0 (by first | decide | omega) (by first | decide | omega) g0 e0 hI l1_0 l1_1 l1_2 l1_3 hl1
    refine gx_incS (i := 3) (a := k) (x := 1) rfl (fun _ => rfl) m3 (by first | decide | omega) rfl (fun l2 hl2 ml2 => ?_)
    have l2_0 : en_ld l2 0 = some (gx_r 383) := ml2 0 _ m0 rfl
    have l2_1 : en_ld l2 1 = some (.inl days) := ml2 1 _ m1 rfl
    have l2_2 : en_ld l2 2 = some (.inl wh) := ml2 2 _ m2 rfl
    refine ex_go (S := (28, l2, [], t1, n, 0)) rfl (fun _ => rfl) rfl ?_
    exact ih (k + 1) _ t1 (by first | decide | omega) g1 e1 hI1 l2_0 l2_1 l2_2 hl2
theorem pe_lost (d n : Nat) {t0 : en_H} {days wh : Nat} {L : List Nat} (g0 : ai_HG ah_G t0) (hx : days < 4294967296) (hy : wh < 4294967296) (hL : RLL t0 1 8 L) : ∃ r, en_u (d + 7) 76 [gx_r 383, .inl days, .inl wh] t0 n = some r ∧ ∃ v t', r = (some (.inl v), t', n, 0) ∧ (¬ (1 ≤ days ∧ days ≤ 30 ∧ wh ≤ 1) → v = 4294967295) ∧ (1 ≤ days ∧ days ≤ 30 ∧ wh ≤ 1 → v = lostv (wlo L) days wh) := by
  have hW : ∀ d, wlo L d ≤ 99 := fun d => vcl_le
  refine en_u_ex (d := d + 6) rfl ?_
  show en_ex _ _ _ _ (0, [(0, gx_r 383), (1, .inl days), (2, .inl wh)], [], t0, n, 0) _
  refine ex_go (S := (1, [(0, gx_r 383), (1, .inl days), (2, .inl wh)], [gx_r 383], t0, n, 0)) rfl (fun _ => rfl) rfl ?_
  refine ex_go (S := (2, [(0, gx_r 383), (1, .inl days), (2, .inl wh)], [.inl 0, gx_r 383], t0, n, 0)) rfl (fun _ => rfl) rfl ?_
  refine gx_put rfl g0 rfl rfl (ai_in_h (by first | decide | omega) (by first | decide | omega) (by first | decide | omega)) rfl (fun t101 g101 k101 e101 => ?_)
  refine ex_go (S := (6, [(0, gx_r 383), (1, .inl days), (2, .inl wh)], [.inl days], t101, n, 0)) rfl (fun _ => rfl) rfl ?_
  refine ex_go (S := (7, [(0, gx_r 383), (1, .inl days), (2, .inl wh)], [.inl 1, .inl days], t101, n, 0)) rfl (fun _ => rfl) rfl ?_
  refine ex_go (S := (9, [(0, gx_r 383), (1, .inl days), (2, .inl wh)], [.inl 30, .inl 1, .inl days], t101, n, 0)) rfl (fun _ => rfl) rfl ?_
  obtain ⟨_, r2, b3, rfl, b3b, q4⟩ := pz_within ((d + 5)) n (t0 := t101) (x := days) (lo := 1) (hi := 30) (by first | decide | omega) (by first | decide | omega) (by first | decide | omega)
  refine ex_stat rfl rfl rfl rfl rfl r2 (Nat.le_refl _) rfl ?_
  show en_ex _ _ _ _ (12, [(0, gx_r 383), (1, .inl days), (2, .inl wh)], [.inl b3], t101, n, 0) _
  by_cases hc5 : b3 = 0
  · refine gx_1t (c := .eq) rfl (by first | decide | omega) hc5 rfl ?_
    refine ex_go (S := (25, [(0, gx_r 383), (1, .inl days), (2, .inl wh)], [.inl 4294967295], t101, n, 0)) rfl (fun _ => rfl) rfl ?_
    refine ex_ret (r := (some (.inl 4294967295), t101, n, 0)) rfl (fun _ => rfl) ?_
    exact ⟨_, rfl, _, t101, rfl, fun _ => rfl, fun z => absurd z (by first | decide | omega)⟩
  · refine gx_1f (c := .eq) rfl (by first | decide | omega) hc5 rfl ?_
    refine ex_go (S := (16, [(0, gx_r 383), (1, .inl days), (2, .inl wh)], [.inl wh], t101, n, 0)) rfl (fun _ => rfl) rfl ?_
    refine ex_go (S := (17, [(0, gx_r 383), (1, .inl days), (2, .inl wh)], [.inl 0, .inl wh], t101, n, 0)) rfl (fun _ => rfl) rfl ?_
    refine ex_go (S := (18, [(0, gx_r 383), (1, .inl days), (2, .inl wh)], [.inl 1, .inl 0, .inl wh], t101, n, 0)) rfl (fun _ => rfl) rfl ?_
    obtain ⟨_, r6, b7, rfl, b7b, q8⟩ := pz_within ((d + 5)) n (t0 := t101) (x := wh) (lo := 0) (hi := 1) (by first | decide | omega) (by first | decide | omega) (by first | decide | omega)
    refine ex_stat rfl rfl rfl rfl rfl r6 (Nat.le_refl _) rfl ?_
    show en_ex _ _ _ _ (21, [(0, gx_r 383), (1, .inl days), (2, .inl wh)], [.inl b7], t101, n, 0) _
    by_cases hc9 : b7 ≠ 0
    · refine gx_1t (c := .ne) rfl (by first | decide | omega) hc9 rfl ?_
      refine ex_go (S := (27, [(0, gx_r 383), (1, .inl days), (2, .inl wh)], [.inl 0], t101, n, 0)) rfl (fun _ => rfl) rfl ?_
      refine ex_go (S := (28, [(3, .inl 0), (0, gx_r 383), (1, .inl days), (2, .inl wh)], [], t101, n, 0)) rfl (fun _ => rfl) rfl ?_
      refine pe_lost_out d n (tb := t101) (by first | decide | omega) (by first | decide | omega) hW (RLL_keep hL (e101 389 (9 + 1) (by first | decide | omega)) (fun c i h => e101 c i (by first | decide | omega))) (by first | decide | omega) (fun cl1 tx gx ex hI m0 m1 m2 m3 => ?_) days 0 _ t101 (by first | decide | omega) g101 (fun _ _ _ => rfl) (fun f l a1 a2 a3 a4 => absurd a4 (by first | decide | omega)) rfl rfl rfl rfl
      have hLx : RLL tx 1 8 L := RLL_keep hL ((ex 389 (9 + 1) (by first | decide | omega)).trans (e101 389 (9 + 1) (by first | decide | omega))) (fun c i h => (ex c i (by first | decide | omega)).trans (e101 c i (by first | decide | omega)))
      refine gx_ld (i := 2) (d := 0) (v := .inl wh) rfl (fun _ => rfl) m2 rfl rfl ?_
      by_cases hc10 : wh ≠ 0
      · refine gx_1t (c := .ne) rfl (by first | decide | omega) hc10 rfl ?_
        refine gx_ld (i := 1) (d := 0) (v := .inl days) rfl (fun _ => rfl) m1 rfl rfl ?_
        refine ex_go (S := (117, cl1, [.inl 1, .inl days], tx, n, 0)) rfl (fun _ => rfl) rfl ?_
        by_cases hc11 : days ≠ 1
        · refine gx_2t (c := .ne) rfl (by first | decide | omega) (by first | decide | omega) hc11 rfl ?_
          refine gx_ld (i := 0) (d := 2) (v := gx_r 383) rfl (fun _ => rfl) m0 rfl rfl ?_
          refine ex_go (S := (126, cl1, [.inl 1, gx_r 383], tx, n, 0)) rfl (fun _ => rfl) rfl ?_
          refine gx_ld (i := 1) (d := 0) (v := .inl days) rfl (fun _ => rfl) m1 rfl rfl ?_
          obtain ⟨_, r112, t112, rfl, g112, e112⟩ := pe_bestLook (tb := tx) d n (f := 1) (l := days) (L := L) (by first | decide | omega) (by first | decide | omega) hW (fun x h1 h2 => ⟨hI 1 x (by first | decide | omega) (by first | decide | omega) (by first | decide | omega) (by first | decide | omega), hI (x + 1) days (by first | decide | omega) (by first | decide | omega) (by first | decide | omega) (by first | decide | omega)⟩) hLx (by first | decide | omega) gx
          refine gx_call1 rfl rfl gx rfl rfl r112 rfl ?_
          show en_ex _ _ _ _ (130, cl1, [.inl (lb (lK (wlo L) (LT (wlo L)) 1 days) 1 (days - 1 - 1))], t112, n, 0) _
          refine ex_ret (r := (some (.inl (lb (lK (wlo L) (LT (wlo L)) 1 days) 1 (days - 1 - 1))), t112, n, 0)) rfl (fun _ => rfl) ?_
          exact ⟨_, rfl, _, t112, rfl, fun z => absurd z (by first | decide | omega), fun _ => ((if_neg (by first | decide | omega)).trans (if_neg (by first | decide | omega))).symm⟩
        · refine gx_2f (c := .ne) rfl (by first | decide | omega) (by first | decide | omega) hc11 rfl ?_
          refine ex_go (S := (121, cl1, [.inl 4294967295], tx, n, 0)) rfl (fun _ => rfl) rfl ?_
          refine ex_go (S := (130, cl1, [.inl 4294967295], tx, n, 0)) rfl (fun _ => rfl) rfl ?_
          refine ex_ret (r := (some (.inl 4294967295), tx, n, 0)) rfl (fun _ => rfl) ?_
          exact ⟨_, rfl, _, tx, rfl, fun z => absurd z (by first | decide | omega), fun _ => ((if_neg (by first | decide | omega)).trans (if_pos (by first | decide | omega))).symm⟩
      · refine gx_1f (c := .ne) rfl (by first | decide | omega) hc10 rfl ?_
        refine gx_ld (i := 0) (d := 2) (v := gx_r 383) rfl (fun _ => rfl) m0 rfl rfl ?_
        refine gx_ref (c := 406) rfl gx rfl rfl rfl rfl ?_
        refine ex_go (S := (109, cl1, [.inl 32, gx_r 406], tx, n, 0)) rfl (fun _ => rfl) rfl ?_
        refine gx_ld (i := 1) (d := 0) (v := .inl days) rfl (fun _ => rfl) m1 rfl rfl ?_
        refine ex_iadd rfl (by first | decide | omega) rfl ?_
        have hlo := hI 1 days (by first | decide | omega) (by first | decide | omega) (by first | decide | omega) (by first | decide | omega)
        rw [show 32 * 1 + days = 32 + days by omega] at hlo
        have hbl := LT_b (W := wlo L) hW (f := 1) (l := days) (by first | decide | omega)
        refine gx_ag (v := .inl (LT (wlo L) 1 days)) (cb := fun c => Nat.beq c 0) rfl (fun _ => rfl) gx rfl rfl hlo (by first | decide | omega) rfl ?_
        refine ex_go (S := (130, cl1, [.inl (LT (wlo L) 1 days)], tx, n, 0)) rfl (fun _ => rfl) rfl ?_
        refine ex_ret (r := (some (.inl (LT (wlo L) 1 days)), tx, n, 0)) rfl (fun _ => rfl) ?_
        exact ⟨_, rfl, _, tx, rfl, fun z => absurd z (by first | decide | omega), fun _ => (if_pos (by first | decide | omega)).symm⟩
    · refine gx_1f (c := .ne) rfl (by first | decide | omega) hc9 rfl ?_
      refine ex_go (S := (25, [(0, gx_r 383), (1, .inl days), (2, .inl wh)], [.inl 4294967295], t101, n, 0)) rfl (fun _ => rfl) rfl ?_
      refine ex_ret (r := (some (.inl 4294967295), t101, n, 0)) rfl (fun _ => rfl) ?_
      exact ⟨_, rfl, _, t101, rfl, fun _ => rfl, fun z => absurd z (by first | decide | omega)⟩
/-- the rows of what a look costs, each in its place -/
noncomputable def CR (t : en_H) : Prop := ∀ k, k < 31 → ai_hv t 147 k = some (gx_r (148 + k))
theorem cst_G {k : Nat} (hk : k < 31) : ah_G (148 + k) = some ag_148 := by
  rcases (show k = 0 ∨ k = 1 ∨ k = 2 ∨ k = 3 ∨ k = 4 ∨ k = 5 ∨ k = 6 ∨ k = 7 ∨ k = 8 ∨ k = 9 ∨ k = 10 ∨ k = 11 ∨ k = 12 ∨ k = 13 ∨ k = 14 ∨ k = 15 ∨ k = 16 ∨ k = 17 ∨ k = 18 ∨ k = 19 ∨ k = 20 ∨ k = 21 ∨ k = 22 ∨ k = 23 ∨ k = 24 ∨ k = 25 ∨ k = 26 ∨ k = 27 ∨ k = 28 ∨ k = 29 ∨ k = 30 by omega) with rfl | rfl | rfl | rfl | rfl | rfl | rfl | rfl | rfl | rfl | rfl | rfl | rfl | rfl | rfl | rfl | rfl | rfl | rfl | rfl | rfl | rfl | rfl | rfl | rfl | rfl | rfl | rfl | rfl | rfl | rfl <;> rfl
/-- the least so far, and where, of the first k days from f on -/
noncomputable def fl (c : Nat → Nat) (f : Nat) : Nat → Nat
  | 0 => 1000000000
  | k + 1 => c (lb c f k)
noncomputable def ff (c : Nat → Nat) (f : Nat) : Nat → Nat
  | 0 => 4294967295
  | k + 1 => lb c f k
theorem fl_t {c : Nat → Nat} {f k : Nat} (h : c (f + k) < fl c f k) : fl c f (k + 1) = c (f + k) ∧ ff c f (k + 1) = f + k := by
  cases k with
  | zero => exact ⟨rfl, rfl⟩
  | succ k =>
    have h : c (f + k + 1) < c (lb c f k) := h
    have e : lb c f (k + 1) = f + k + 1 := if_pos h
    exact ⟨by show c (lb c f (k + 1)) = c (f + k + 1); rw [e], e⟩
theorem fl_f {c : Nat → Nat} {f k : Nat} (hc : c (f + k) < 1000000000) (h : ¬ c (f + k) < fl c f k) : fl c f (k + 1) = fl c f k ∧ ff c f (k + 1) = ff c f k := by
  cases k with
  | zero => exact absurd hc h
  | succ k =>
    have h : ¬ c (f + k + 1) < c (lb c f k) := h
    have e : lb c f (k + 1) = lb c f k := if_neg h
    exact ⟨by show c (lb c f (k + 1)) = c (lb c f k); rw [e], e⟩
/-- what is found, of the class -/
noncomputable def CI (t : en_H) (W : Nat → Nat) (days k F : Nat) : Prop := ∀ f l, 1 ≤ f → f ≤ l → l ≤ days → (l - f < k ∨ (l - f = k ∧ f < F)) → ai_hv t (148 + f) l = some (.inl (LT W f l))
theorem pc_fillLook_l {fn : en_F} {n : Nat} {t0 : en_H} {W : Nat → Nat} {f l : Nat} (g0 : ai_HG ah_G t0) (hR : CR t0) (hW : ∀ d, W d ≤ 99) (hf : 1 ≤ f) (hl : l ≤ 30) (hP : ∀ d, 1 ≤ d → d ≤ l → ai_hv t0 146 d = some (.inl (W d))) (hT : ∀ x, f ≤ x → x < l → ai_hv t0 (148 + f) x = some (.inl (LT W f x)) ∧ ai_hv t0 (148 + (x + 1)) l = some (.inl (LT W (x + 1) l))) {Q : en_O → Prop} (hQ : ∀ cl, en_ld cl 0 = some (gx_r 144) → en_ld cl 1 = some (.inl f) → en_ld cl 2 = some (.inl l) → en_ld cl 3 = some (.inl (fl (lK W (LT W) f l) f (l - f))) → en_ld cl 4 = some (.inl (ff (lK W (LT W) f l) f (l - f))) → en_ex none fn (en_code 215) (fun _ => false) (67, cl, [], t0, n, 0) Q) : ∀ j k cl, f + k + j = l → en_ld cl 0 = some (gx_r 144) → en_ld cl 1 = some (.inl f) → en_ld cl 2 = some (.inl l) → en_ld cl 3 = some (.inl (fl (lK W (LT W) f l) f k)) → en_ld cl 4 = some (.inl (ff (lK W (LT W) f l) f k)) → en_ld cl 5 = some (.inl (f + k)) → en_ex none fn (en_code 215) (fun _ => false) (9, cl, [], t0, n, 0) Q := by
  intro j
  induction j with
  | zero =>
    intro k cl hj h0 h1 h2 h3 h4 h5
    refine gx_ld (i := 5) (d := 0) (v := .inl (f + k)) rfl (fun _ => rfl) h5 rfl rfl ?_
    refine gx_ld (i := 2) (d := 0) (v := .inl l) rfl (fun _ => rfl) h2 rfl rfl ?_
    refine gx_2t (c := .ge) rfl (by first | decide | omega) (by first | decide | omega) (show l ≤ f + k from by omega) rfl ?_
    have hkl : l - f = k := by omega
    rw [hkl] at hQ
    exact hQ _ h0 h1 h2 h3 h4
  | succ j ih =>
    intro k cl hj h0 h1 h2 h3 h4 h5
    refine gx_ld (i := 5) (d := 0) (v := .inl (f + k)) rfl (fun _ => rfl) h5 rfl rfl ?_
    refine gx_ld (i := 2) (d := 0) (v := .inl l) rfl (fun _ => rfl) h2 rfl rfl ?_
    refine gx_2f (c := .ge) rfl (by first | decide | omega) (by first | decide | omega) (show ¬ (l ≤ f + k) from by omega) rfl ?_
    refine gx_ld (i := 0) (d := 2) (v := gx_r 144) rfl (fun _ => rfl) h0 rfl rfl ?_
    refine gxo_ref (a := 144) (c := 146) rfl g0 rfl rfl rfl rfl rfl ?_
    refine gx_ld (i := 5) (d := 0) (v := .inl (f + k)) rfl (fun _ => rfl) h5 rfl rfl ?_
    have hp9 := hW (f + k)
    refine gx_ag (v := .inl (W (f + k))) (cb := fun c => Nat.beq c 0) rfl (fun _ => rfl) g0 rfl rfl (hP (f + k) (by first | decide | omega) (by first | decide | omega)) (by first | decide | omega) rfl ?_
    refine gx_ld (i := 0) (d := 2) (v := gx_r 144) rfl (fun _ => rfl) h0 rfl rfl ?_
    refine gxo_ref (a := 144) (c := 147) rfl g0 rfl rfl rfl rfl rfl ?_
    refine gx_ld (i := 1) (d := 0) (v := .inl f) rfl (fun _ => rfl) h1 rfl rfl ?_
    refine gx_ag (v := gx_r (148 + f)) (cb := fun c => Nat.ble 4 c && Nat.ble c 7) rfl (fun _ => rfl) g0 rfl rfl (hR f (by first | decide | omega)) (by first | decide | omega) rfl ?_
    refine gx_ld (i := 5) (d := 0) (v := .inl (f + k)) rfl (fun _ => rfl) h5 rfl rfl ?_
    have ha9 := LT_b (W := W) hW (f := f) (l := f + k) (by first | decide | omega)
    refine gx_ag (c := 148 + f) (v := .inl (LT W f (f + k))) (cb := fun c => Nat.beq c 0) rfl (fun _ => rfl) g0 (cst_G (by first | decide | omega)) rfl ((hT (f + k) (by first | decide | omega) (by first | decide | omega)).1) (by first | decide | omega) rfl ?_
    refine gx_ld (i := 0) (d := 2) (v := gx_r 144) rfl (fun _ => rfl) h0 rfl rfl ?_
    refine gxo_ref (a := 144) (c := 147) rfl g0 rfl rfl rfl rfl rfl ?_
    refine gx_ld (i := 5) (d := 0) (v := .inl (f + k)) rfl (fun _ => rfl) h5 rfl rfl ?_
    refine ex_go (S := (38, cl, [.inl 1, .inl (f + k), gx_r 147, .inl (LT W f (f + k)), .inl (W (f + k))], t0, n, 0)) rfl (fun _ => rfl) rfl ?_
    refine ex_iadd rfl (by first | decide | omega) rfl ?_
    refine gx_ag (v := gx_r (148 + ((f + k) + 1))) (cb := fun c => Nat.ble 4 c && Nat.ble c 7) rfl (fun _ => rfl) g0 rfl rfl (hR ((f + k) + 1) (by first | decide | omega)) (by first | decide | omega) rfl ?_
    refine gx_ld (i := 2) (d := 0) (v := .inl l) rfl (fun _ => rfl) h2 rfl rfl ?_
    have hb9 := LT_b (W := W) hW (f := f + k + 1) (l := l) (by first | decide | omega)
    refine gx_ag (c := 148 + ((f + k) + 1)) (v := .inl (LT W (f + k + 1) l)) (cb := fun c => Nat.beq c 0) rfl (fun _ => rfl) g0 (cst_G (by first | decide | omega)) rfl ((hT (f + k) (by first | decide | omega) (by first | decide | omega)).2) (by first | decide | omega) rfl ?_
    refine gx_imm rfl rfl (zk_max (by first | decide | omega) (by first | decide | omega)) rfl rfl ?_
    refine ex_iadd rfl (by first | decide | omega) rfl ?_
    have hk9 := lK_b (W := W) hW (f := f) (l := l) (d := f + k) (by first | decide | omega) (by first | decide | omega)
    have hce : W (f + k) + max (LT W f (f + k)) (LT W (f + k + 1) l) = (lK W (LT W) f l) (f + k) := rfl
    rw [hce]
    show en_ex _ _ _ _ (46, cl, [.inl (lK W (LT W) f l (f + k))], t0, n, 0) _
    refine gx_sto (i := 6) (d := 0) rfl (fun _ => rfl) rfl rfl (fun l1 hl1 ml1 => ?_)
    have l1_0 : en_ld l1 0 = some (gx_r 144) := ml1 0 _ h0 rfl
    have l1_1 : en_ld l1 1 = some (.inl f) := ml1 1 _ h1 rfl
    have l1_2 : en_ld l1 2 = some (.inl l) := ml1 2 _ h2 rfl
    have l1_3 : en_ld l1 3 = some (.inl (fl (lK W (LT W) f l) f k)) := ml1 3 _ h3 rfl
    have l1_4 : en_ld l1 4 = some (.inl (ff (lK W (LT W) f l) f k)) := ml1 4 _ h4 rfl
    have l1_5 : en_ld l1 5 = some (.inl (f + k)) := ml1 5 _ h5 rfl
    refine gx_ld (i := 6) (d := 0) (v := .inl (lK W (LT W) f l (f + k))) rfl (fun _ => rfl) hl1 rfl rfl ?_
    refine gx_ld (i := 3) (d := 0) (v := .inl (fl (lK W (LT W) f l) f k)) rfl (fun _ => rfl) l1_3 rfl rfl ?_
    have hfl : fl (lK W (LT W) f l) f k ≤ 1000000000 := by
      cases k with
      | zero => exact Nat.le_refl _
      | succ k =>
        have hi9 := lb_in (lK W (LT W) f l) f k
        have := lK_b (W := W) hW (f := f) (l := l) (d := lb (lK W (LT W) f l) f k) (by first | decide | omega) (by first | decide | omega)
        exact Nat.le_trans this (by decide)
    by_cases hlt : lK W (LT W) f l (f + k) < fl (lK W (LT W) f l) f k
    · refine gx_2f (c := .ge) rfl (by first | decide | omega) (by first | decide | omega) (show ¬ (fl (lK W (LT W) f l) f k ≤ lK W (LT W) f l (f + k)) from by omega) rfl ?_
      refine gx_ld (i := 6) (d := 0) (v := .inl (lK W (LT W) f l (f + k))) rfl (fun _ => rfl) hl1 rfl rfl ?_
      refine gx_sto (i := 3) (d := 0) rfl (fun _ => rfl) rfl rfl (fun l2 hl2 ml2 => ?_)
      have l2_0 : en_ld l2 0 = some (gx_r 144) := ml2 0 _ l1_0 rfl
      have l2_1 : en_ld l2 1 = some (.inl f) := ml2 1 _ l1_1 rfl
      have l2_2 : en_ld l2 2 = some (.inl l) := ml2 2 _ l1_2 rfl
      have l2_4 : en_ld l2 4 = some (.inl (ff (lK W (LT W) f l) f k)) := ml2 4 _ l1_4 rfl
      have l2_5 : en_ld l2 5 = some (.inl (f + k)) := ml2 5 _ l1_5 rfl
      have l2_6 : en_ld l2 6 = some (.inl (lK W (LT W) f l (f + k))) := ml2 6 _ hl1 rfl
      refine gx_ld (i := 5) (d := 0) (v := .inl (f + k)) rfl (fun _ => rfl) l2_5 rfl rfl ?_
      refine gx_sto (i := 4) (d := 0) rfl (fun _ => rfl) rfl rfl (fun l3 hl3 ml3 => ?_)
      have l3_0 : en_ld l3 0 = some (gx_r 144) := ml3 0 _ l2_0 rfl
      have l3_1 : en_ld l3 1 = some (.inl f) := ml3 1 _ l2_1 rfl
      have l3_2 : en_ld l3 2 = some (.inl l) := ml3 2 _ l2_2 rfl
      have l3_5 : en_ld l3 5 = some (.inl (f + k)) := ml3 5 _ l2_5 rfl
      have l3_6 : en_ld l3 6 = some (.inl (lK W (LT W) f l (f + k))) := ml3 6 _ l2_6 rfl
      have l3_3 : en_ld l3 3 = some (.inl (lK W (LT W) f l (f + k))) := ml3 3 _ hl2 rfl
      refine gx_incS (i := 5) (a := f + k) (x := 1) rfl (fun _ => rfl) l3_5 (by first | decide | omega) rfl (fun l4 hl4 ml4 => ?_)
      have l4_0 : en_ld l4 0 = some (gx_r 144) := ml4 0 _ l3_0 rfl
      have l4_1 : en_ld l4 1 = some (.inl f) := ml4 1 _ l3_1 rfl
      have l4_2 : en_ld l4 2 = some (.inl l) := ml4 2 _ l3_2 rfl
      have l4_6 : en_ld l4 6 = some (.inl (lK W (LT W) f l (f + k))) := ml4 6 _ l3_6 rfl
      have l4_3 : en_ld l4 3 = some (.inl (lK W (LT W) f l (f + k))) := ml4 3 _ l3_3 rfl
      have l4_4 : en_ld l4 4 = some (.inl (f + k)) := ml4 4 _ hl3 rfl
      refine ex_go (S := (9, l4, [], t0, n, 0)) rfl (fun _ => rfl) rfl ?_
      have hs := fl_t (c := (lK W (LT W) f l)) (f := f) (k := k) hlt
      exact ih (k + 1) _ (by first | decide | omega) l4_0 l4_1 l4_2 (by rw [hs.1]; exact l4_3) (by rw [hs.2]; exact l4_4) hl4
    · refine gx_2t (c := .ge) rfl (by first | decide | omega) (by first | decide | omega) (show fl (lK W (LT W) f l) f k ≤ lK W (LT W) f l (f + k) from by omega) rfl ?_
      refine gx_incS (i := 5) (a := f + k) (x := 1) rfl (fun _ => rfl) l1_5 (by first | decide | omega) rfl (fun l5 hl5 ml5 => ?_)
      have l5_0 : en_ld l5 0 = some (gx_r 144) := ml5 0 _ l1_0 rfl
      have l5_1 : en_ld l5 1 = some (.inl f) := ml5 1 _ l1_1 rfl
      have l5_2 : en_ld l5 2 = some (.inl l) := ml5 2 _ l1_2 rfl
      have l5_3 : en_ld l5 3 = some (.inl (fl (lK W (LT W) f l) f k)) := ml5 3 _ l1_3 rfl
      have l5_4 : en_ld l5 4 = some (.inl (ff (lK W (LT W) f l) f k)) := ml5 4 _ l1_4 rfl
      have l5_6 : en_ld l5 6 = some (.inl (lK W (LT W) f l (f + k))) := ml5 6 _ hl1 rfl
      refine ex_go (S := (9, l5, [], t0, n, 0)) rfl (fun _ => rfl) rfl ?_
      have hs := fl_f (c := (lK W (LT W) f l)) (f := f) (k := k) (by first | decide | omega) hlt
      exact ih (k + 1) _ (by first | decide | omega) l5_0 l5_1 l5_2 (by rw [hs.1]; exact l5_3) (by rw [hs.2]; exact l5_4) hl5
theorem pc_fillLook (d n : Nat) {t0 : en_H} {W : Nat → Nat} {f l : Nat} (g0 : ai_HG ah_G t0) (hR : CR t0) (hW : ∀ d, W d ≤ 99) (hf : 1 ≤ f) (hfl : f < l) (hl : l ≤ 30) (hP : ∀ d, 1 ≤ d → d ≤ l → ai_hv t0 146 d = some (.inl (W d))) (hT : ∀ x, f ≤ x → x < l → ai_hv t0 (148 + f) x = some (.inl (LT W f x)) ∧ ai_hv t0 (148 + (x + 1)) l = some (.inl (LT W (x + 1) l))) : ∃ r, en_u (d + 1) 215 [gx_r 144, .inl f, .inl l] t0 n = some r ∧ ∃ t', r = (some (.inl (lb (lK W (LT W) f l) f (l - f - 1))), t', n, 0) ∧ ai_HG ah_G t' ∧ (∀ c i, ¬ (c = 148 + f ∧ i = l) → ai_hv t' c i = ai_hv t0 c i) ∧ ai_hv t' (148 + f) l = some (.inl (LT W f l)) := by
  refine en_u_ex rfl ?_
  show en_ex _ _ _ _ (0, [(0, gx_r 144), (1, .inl f), (2, .inl l)], [], t0, n, 0) _
  refine ex_go (S := (2, [(0, gx_r 144), (1, .inl f), (2, .inl l)], [.inl 1000000000], t0, n, 0)) rfl (fun _ => rfl) rfl ?_
  refine ex_go (S := (3, [(3, .inl 1000000000), (0, gx_r 144), (1, .inl f), (2, .inl l)], [], t0, n, 0)) rfl (fun _ => rfl) rfl ?_
  refine ex_go (S := (4, [(3, .inl 1000000000), (0, gx_r 144), (1, .inl f), (2, .inl l)], [.inl 4294967295], t0, n, 0)) rfl (fun _ => rfl) rfl ?_
  refine ex_go (S := (6, [(4, .inl 4294967295), (3, .inl 1000000000), (0, gx_r 144), (1, .inl f), (2, .inl l)], [], t0, n, 0)) rfl (fun _ => rfl) rfl ?_
  refine ex_go (S := (7, [(4, .inl 4294967295), (3, .inl 1000000000), (0, gx_r 144), (1, .inl f), (2, .inl l)], [.inl f], t0, n, 0)) rfl (fun _ => rfl) rfl ?_
  refine ex_go (S := (9, [(5, .inl f), (4, .inl 4294967295), (3, .inl 1000000000), (0, gx_r 144), (1, .inl f), (2, .inl l)], [], t0, n, 0)) rfl (fun _ => rfl) rfl ?_
  refine pc_fillLook_l g0 hR hW hf hl hP hT (fun cl h0 h1 h2 h3 h4 => ?_) (l - f) 0 _ (by first | decide | omega) rfl rfl rfl rfl rfl rfl
  have hlf : l - f = l - f - 1 + 1 := by omega
  have e3 : fl (lK W (LT W) f l) f (l - f) = LT W f l := by rw [hlf, LT_step hfl]; rfl
  have e4 : ff (lK W (LT W) f l) f (l - f) = lb (lK W (LT W) f l) f (l - f - 1) := by rw [hlf]; rfl
  rw [e3] at h3
  rw [e4] at h4
  have hb9 := LT_b (W := W) hW (f := f) (l := l) (by first | decide | omega)
  refine gx_ld (i := 0) (d := 2) (v := gx_r 144) rfl (fun _ => rfl) h0 rfl rfl ?_
  refine gxo_ref (a := 144) (c := 147) rfl g0 rfl rfl rfl rfl rfl ?_
  refine gx_ld (i := 1) (d := 0) (v := .inl f) rfl (fun _ => rfl) h1 rfl rfl ?_
  refine gx_ag (v := gx_r (148 + f)) (cb := fun c => Nat.ble 4 c && Nat.ble c 7) rfl (fun _ => rfl) g0 rfl rfl (hR f (by first | decide | omega)) (by first | decide | omega) rfl ?_
  refine gx_ld (i := 2) (d := 0) (v := .inl l) rfl (fun _ => rfl) h2 rfl rfl ?_
  refine gx_ld (i := 3) (d := 0) (v := .inl (LT W f l)) rfl (fun _ => rfl) h3 rfl rfl ?_
  refine gx_ap (c := 148 + f) rfl (fun _ => rfl) g0 (cst_G (by first | decide | omega)) rfl rfl (show l < 31 from by omega) (gx_run1 (show l < 31 from by omega)) (gx_full (by first | decide | omega)) rfl (fun t101 g101 k101 e101 => ?_)
  refine gx_ld (i := 4) (d := 0) (v := .inl (lb (lK W (LT W) f l) f (l - f - 1))) rfl (fun _ => rfl) h4 rfl rfl ?_
  refine ex_ret (r := (some (.inl (lb (lK W (LT W) f l) f (l - f - 1))), t101, n, 0)) rfl (fun _ => rfl) ?_
  exact ⟨_, rfl, t101, rfl, g101, (fun c i h => e101 c i (by first | decide | omega)), k101⟩
theorem pc_looks233_a (d n : Nat) {tb : en_H} {days : Nat} {L : List Nat} {Q : en_O → Prop} (hR : CR tb) (hd1 : 1 ≤ days) (hd2 : days ≤ 30) (hW : ∀ d, wlo L d ≤ 99) (kb : ai_hv tb 233 2 = some (.inl L.length)) (hs : L.length ≤ 1000) (hc : cco tb 233 0 L) (hv : ∀ z, z ∈ L → ∃ fh, vo fh z) (hr : hrun 25 L 0 = some 1) (hQ : ∀ cl t1, ai_HG ah_G t1 → (∀ c i, ¬ ((148 ≤ c ∧ c ≤ 178) ∨ c = 146 ∨ c = 234) → ai_hv t1 c i = ai_hv tb c i) → (∀ x, 1 ≤ x → x < days + 1 → ai_hv t1 146 x = some (.inl (wlo L x)) ∧ ai_hv t1 (148 + x) x = some (.inl 0)) → en_ld cl 0 = some (gx_r 144) → en_ld cl 1 = some (gx_r 233) → en_ld cl 2 = some (.inl days) → en_ex none (en_u (d + 2)) (en_code 150) (fun _ => false) (42, cl, [], t1, n, 0) Q) : ∀ j k cl t0, k + j = days + 1 → 1 ≤ k → ai_HG ah_G t0 → (∀ c i, ¬ ((148 ≤ c ∧ c ≤ 178) ∨ c = 146 ∨ c = 234) → ai_hv t0 c i = ai_hv tb c i) → (∀ x, 1 ≤ x → x < k → ai_hv t0 146 x = some (.inl (wlo L x)) ∧ ai_hv t0 (148 + x) x = some (.inl 0)) → en_ld cl 0 = some (gx_r 144) → en_ld cl 1 = some (gx_r 233) → en_ld cl 2 = some (.inl days) → en_ld cl 3 = some (.inl k) → en_ex none (en_u (d + 2)) (en_code 150) (fun _ => false) (7, cl, [], t0, n, 0) Q := by
  intro j
  induction j with
  | zero =>
    intro k cl t0 hj hk g0 e0 hI h0 h1 h2 h3
    refine gx_ld (i := 3) (d := 0) (v := .inl k) rfl (fun _ => rfl) h3 rfl rfl ?_
    refine gx_ld (i := 2) (d := 0) (v := .inl days) rfl (fun _ => rfl) h2 rfl rfl ?_
    refine gx_2t (c := .gt) rfl (by first | decide | omega) (by first | decide | omega) (show days < k from by omega) rfl ?_
    have hkd : k = days + 1 := by omega
    subst hkd
    exact hQ _ t0 g0 e0 hI h0 h1 h2
  | succ j ih =>
    intro k cl t0 hj hk g0 e0 hI h0 h1 h2 h3
    refine gx_ld (i := 3) (d := 0) (v := .inl k) rfl (fun _ => rfl) h3 rfl rfl ?_
    refine gx_ld (i := 2) (d := 0) (v := .inl days) rfl (fun _ => rfl) h2 rfl rfl ?_
    refine gx_2f (c := .gt) rfl (by first | decide | omega) (by first | decide | omega) (show ¬ (days < k) from by omega) rfl ?_
    refine gx_ld (i := 0) (d := 2) (v := gx_r 144) rfl (fun _ => rfl) h0 rfl rfl ?_
    refine gxo_ref (a := 144) (c := 146) rfl g0 rfl rfl rfl rfl rfl ?_
    refine gx_ld (i := 3) (d := 0) (v := .inl k) rfl (fun _ => rfl) h3 rfl rfl ?_
    refine gx_ld (i := 1) (d := 2) (v := gx_r 233) rfl (fun _ => rfl) h1 rfl rfl ?_
    refine ex_go (S := (20, cl, [.inl 99, gx_r 233, .inl k, gx_r 146], t0, n, 0)) rfl (fun _ => rfl) rfl ?_
    refine ex_go (S := (21, cl, [.inl 0, .inl 99, gx_r 233, .inl k, gx_r 146], t0, n, 0)) rfl (fun _ => rfl) rfl ?_
    refine gx_ld (i := 3) (d := 0) (v := .inl k) rfl (fun _ => rfl) h3 rfl rfl ?_
    refine ex_go (S := (23, cl, [.inl 0, .inl k, .inl 0, .inl 99, gx_r 233, .inl k, gx_r 146], t0, n, 0)) rfl (fun _ => rfl) rfl ?_
    obtain ⟨_, r101, v101, t101, rfl, hv101, vb101, g101, e101⟩ := pc_value233 d n (mo := 99) (me := 0) (ti := k) (ou := 0) (L := L) g0 (by decide) (by decide) (by first | decide | omega) (by decide) ((e0 233 2 (by first | decide | omega)).trans kb) hs (cco_keep (fun i => e0 235 i (by first | decide | omega)) hc) hv hr
    have hw9 : vcl 99 v101 = wlo L k := by unfold wlo; rw [hv101]; rfl
    rw [hw9] at r101
    have hp9 := hW k
    refine gx_callo (a := 233) rfl rfl g0 rfl rfl rfl r101 rfl ?_
    show en_ex _ _ _ _ (26, cl, [.inl (wlo L k), .inl k, gx_r 146], t101, n, 0) _
    refine gx_ap rfl (fun _ => rfl) g101 rfl rfl rfl (show k < 31 from by omega) (gx_run1 (show k < 31 from by omega)) (gx_full (by first | decide | omega)) rfl (fun t102 g102 k102 e102 => ?_)
    refine gx_ld (i := 0) (d := 2) (v := gx_r 144) rfl (fun _ => rfl) h0 rfl rfl ?_
    refine gxo_ref (a := 144) (c := 147) rfl g102 rfl rfl rfl rfl rfl ?_
    refine gx_ld (i := 3) (d := 0) (v := .inl k) rfl (fun _ => rfl) h3 rfl rfl ?_
    refine gx_ag (v := gx_r (148 + k)) (cb := fun c => Nat.ble 4 c && Nat.ble c 7) rfl (fun _ => rfl) g102 rfl rfl ((e102 147 k (by first | decide | omega)).trans ((e101 147 k (by first | decide | omega)).trans ((e0 147 k (by first | decide | omega)).trans (hR k (by first | decide | omega))))) (by first | decide | omega) rfl ?_
    refine gx_ld (i := 3) (d := 0) (v := .inl k) rfl (fun _ => rfl) h3 rfl rfl ?_
    refine ex_go (S := (35, cl, [.inl 0, .inl k, gx_r (148 + k)], t102, n, 0)) rfl (fun _ => rfl) rfl ?_
    refine gx_ap (c := 148 + k) rfl (fun _ => rfl) g102 (cst_G (by first | decide | omega)) rfl rfl (show k < 31 from by omega) (gx_run1 (show k < 31 from by omega)) (gx_full (by first | decide | omega)) rfl (fun t103 g103 k103 e103 => ?_)
    have k4 : ai_hv t103 146 k = some (.inl (wlo L k)) := (e103 146 k (by first | decide | omega)).trans k102
    refine gx_incS (i := 3) (a := k) (x := 1) rfl (fun _ => rfl) h3 (by first | decide | omega) rfl (fun l5 hl5 ml5 => ?_)
    have l5_0 : en_ld l5 0 = some (gx_r 144) := ml5 0 _ h0 rfl
    have l5_1 : en_ld l5 1 = some (gx_r 233) := ml5 1 _ h1 rfl
    have l5_2 : en_ld l5 2 = some (.inl days) := ml5 2 _ h2 rfl
    refine ex_go (S := (7, l5, [], t103, n, 0)) rfl (fun _ => rfl) rfl ?_
    have hI2 : (∀ x, 1 ≤ x → x < k + 1 → ai_hv t103 146 x = some (.inl (wlo L x)) ∧ ai_hv t103 (148 + x) x = some (.inl 0)) := fun x a1 a2 => by
      by_cases e9 : x = k
      · subst e9
        exact ⟨(e103 146 x (by first | decide | omega)).trans k102, k103⟩
      · exact ⟨((e103 146 x (by first | decide | omega)).trans ((e102 146 x (by first | decide | omega)).trans (e101 146 x (by first | decide | omega)))).trans (hI x a1 (by first | decide | omega)).1, ((e103 (148 + x) x (by first | decide | omega)).trans ((e102 (148 + x) x (by first | decide | omega)).trans (e101 (148 + x) x (by first | decide | omega)))).trans (hI x a1 (by first | decide | omega)).2⟩
    exact ih (k + 1) _ t103 (by first | decide | omega) (by first | decide | omega) g103 (fun c i h => ((e103 c i (by first | decide | omega)).trans ((e102 c i (by first | decide | omega)).trans (e101 c i (by first | decide | omega)))).trans (e0 c i h)) hI2 l5_0 l5_1 l5_2 hl5
theorem pc_looks233_b (d n : Nat) {tb : en_H} {days k : Nat} {L : List Nat} {Q : en_O → Prop} (hR : CR tb) (hd1 : 1 ≤ days) (hd2 : days ≤ 30) (hW : ∀ d, wlo L d ≤ 99) (hk1 : 1 ≤ k) (hk2 : k < days) (hQ : ∀ cl t1, ai_HG ah_G t1 → (∀ c i, ¬ ((148 ≤ c ∧ c ≤ 178) ∨ c = 146 ∨ (c = 144 ∧ i = 0) ∨ c = 234) → ai_hv t1 c i = ai_hv tb c i) → (∀ x, 1 ≤ x → x ≤ days → ai_hv t1 146 x = some (.inl (wlo L x))) → CI t1 (wlo L) days (k + 1) 1 → (∃ w, ai_hv t1 144 0 = some (.inl w) ∧ (k + 1 = days → w = lb (lK (wlo L) (LT (wlo L)) 1 days) 1 (days - 1 - 1))) → en_ld cl 0 = some (gx_r 144) → en_ld cl 1 = some (gx_r 233) → en_ld cl 2 = some (.inl days) → en_ld cl 3 = some (.inl k) → en_ex none (en_u (d + 2)) (en_code 150) (fun _ => false) (80, cl, [], t1, n, 0) Q) : ∀ j F cl t0, F + k + j = days + 1 → 1 ≤ F → ai_HG ah_G t0 → (∀ c i, ¬ ((148 ≤ c ∧ c ≤ 178) ∨ c = 146 ∨ (c = 144 ∧ i = 0) ∨ c = 234) → ai_hv t0 c i = ai_hv tb c i) → (∀ x, 1 ≤ x → x ≤ days → ai_hv t0 146 x = some (.inl (wlo L x))) → CI t0 (wlo L) days k F → (∃ w, ai_hv t0 144 0 = some (.inl w) ∧ (k + 1 = days → F = 2 → w = lb (lK (wlo L) (LT (wlo L)) 1 days) 1 (days - 1 - 1))) → en_ld cl 0 = some (gx_r 144) → en_ld cl 1 = some (gx_r 233) → en_ld cl 2 = some (.inl days) → en_ld cl 3 = some (.inl k) → en_ld cl 4 = some (.inl F) → en_ex none (en_u (d + 2)) (en_code 150) (fun _ => false) (52, cl, [], t0, n, 0) Q := by
  intro j
  induction j with
  | zero =>
    intro F cl t0 hj hF g0 e0 hP hI hw h0 h1 h2 h3 h4
    refine gx_ld (i := 4) (d := 0) (v := .inl F) rfl (fun _ => rfl) h4 rfl rfl ?_
    refine gx_ld (i := 3) (d := 0) (v := .inl k) rfl (fun _ => rfl) h3 rfl rfl ?_
    refine ex_iadd rfl (by first | decide | omega) rfl ?_
    refine gx_ld (i := 2) (d := 0) (v := .inl days) rfl (fun _ => rfl) h2 rfl rfl ?_
    refine gx_2t (c := .gt) rfl (by first | decide | omega) (by first | decide | omega) (show days < F + k from by omega) rfl ?_
    obtain ⟨w, w1, w2⟩ := hw
    exact hQ _ t0 g0 e0 hP (fun f l a1 a2 a3 a4 => hI f l a1 a2 a3 (by first | decide | omega)) ⟨w, w1, fun z => w2 z (by first | decide | omega)⟩ h0 h1 h2 h3
  | succ j ih =>
    intro F cl t0 hj hF g0 e0 hP hI hw h0 h1 h2 h3 h4
    refine gx_ld (i := 4) (d := 0) (v := .inl F) rfl (fun _ => rfl) h4 rfl rfl ?_
    refine gx_ld (i := 3) (d := 0) (v := .inl k) rfl (fun _ => rfl) h3 rfl rfl ?_
    refine ex_iadd rfl (by first | decide | omega) rfl ?_
    refine gx_ld (i := 2) (d := 0) (v := .inl days) rfl (fun _ => rfl) h2 rfl rfl ?_
    refine gx_2f (c := .gt) rfl (by first | decide | omega) (by first | decide | omega) (show ¬ (days < F + k) from by omega) rfl ?_
    refine gx_ld (i := 0) (d := 2) (v := gx_r 144) rfl (fun _ => rfl) h0 rfl rfl ?_
    refine gx_ld (i := 0) (d := 2) (v := gx_r 144) rfl (fun _ => rfl) h0 rfl rfl ?_
    refine gx_ld (i := 4) (d := 0) (v := .inl F) rfl (fun _ => rfl) h4 rfl rfl ?_
    refine gx_ld (i := 4) (d := 0) (v := .inl F) rfl (fun _ => rfl) h4 rfl rfl ?_
    refine gx_ld (i := 3) (d := 0) (v := .inl k) rfl (fun _ => rfl) h3 rfl rfl ?_
    refine ex_iadd rfl (by first | decide | omega) rfl ?_
    obtain ⟨_, r101, t101, rfl, g101, e101, kf101⟩ := pc_fillLook (d + 1) n (W := wlo L) (f := F) (l := F + k) g0 (fun q hq => (e0 147 q (by first | decide | omega)).trans (hR q hq)) hW (by first | decide | omega) (by first | decide | omega) (by first | decide | omega) (fun x a1 a2 => hP x a1 (by first | decide | omega)) (fun x a1 a2 => ⟨hI F x (by first | decide | omega) (by first | decide | omega) (by first | decide | omega) (by first | decide | omega), hI (x + 1) (F + k) (by first | decide | omega) (by first | decide | omega) (by first | decide | omega) (by first | decide | omega)⟩)
    have hbi := lb_in (lK (wlo L) (LT (wlo L)) F (F + k)) F (F + k - F - 1)
    refine gx_callo (a := 144) rfl rfl g0 rfl rfl rfl r101 rfl ?_
    show en_ex _ _ _ _ (71, cl, [.inl (lb (lK (wlo L) (LT (wlo L)) F (F + k)) F (F + k - F - 1)), gx_r 144], t101, n, 0) _
    refine gxo_put (a := 144) rfl g101 rfl rfl rfl (ai_in_h (by first | decide | omega) (by first | decide | omega) (by first | decide | omega)) rfl (fun t102 g102 k102 e102 => ?_)
    refine gx_incS (i := 4) (a := F) (x := 1) rfl (fun _ => rfl) h4 (by first | decide | omega) rfl (fun l3 hl3 ml3 => ?_)
    have l3_0 : en_ld l3 0 = some (gx_r 144) := ml3 0 _ h0 rfl
    have l3_1 : en_ld l3 1 = some (gx_r 233) := ml3 1 _ h1 rfl
    have l3_2 : en_ld l3 2 = some (.inl days) := ml3 2 _ h2 rfl
    have l3_3 : en_ld l3 3 = some (.inl k) := ml3 3 _ h3 rfl
    refine ex_go (S := (52, l3, [], t102, n, 0)) rfl (fun _ => rfl) rfl ?_
    have hI2 : CI t102 (wlo L) days k (F + 1) := fun f l a1 a2 a3 a4 => by
      by_cases e9 : f = F ∧ l = F + k
      · obtain ⟨e8, e7⟩ := e9
        subst e8
        rw [e7]
        exact (e102 (148 + f) (f + k) (by first | decide | omega)).trans kf101
      · exact ((e102 (148 + f) l (by first | decide | omega)).trans (e101 (148 + f) l (by first | decide | omega))).trans (hI f l a1 a2 a3 (by first | decide | omega))
    exact ih (F + 1) _ t102 (by first | decide | omega) (by first | decide | omega) g102 (fun c i h => ((e102 c i (by first | decide | omega)).trans (e101 c i (by first | decide | omega))).trans (e0 c i h)) (fun x a1 a2 => ((e102 146 x (by first | decide | omega)).trans (e101 146 x (by first | decide | omega))).trans (hP x a1 a2)) hI2 ⟨_, k102, fun z1 z2 => by
      have z3 : F = 1 := by omega
      subst z3
      rw [show 1 + k = days by omega]⟩ l3_0 l3_1 l3_2 l3_3 hl3
theorem pc_looks233_c (d n : Nat) {tb : en_H} {days : Nat} {L : List Nat} {Q : en_O → Prop} (hR : CR tb) (hd1 : 1 ≤ days) (hd2 : days ≤ 30) (hW : ∀ d, wlo L d ≤ 99) (hQ : ∀ cl t1, ai_HG ah_G t1 → (∀ c i, ¬ ((148 ≤ c ∧ c ≤ 178) ∨ c = 146 ∨ (c = 144 ∧ i = 0) ∨ c = 234) → ai_hv t1 c i = ai_hv tb c i) → CI t1 (wlo L) days days 1 → (∃ w, ai_hv t1 144 0 = some (.inl w) ∧ (2 ≤ days → w = lb (lK (wlo L) (LT (wlo L)) 1 days) 1 (days - 1 - 1)) ∧ (days = 1 → w = 4294967295)) → en_ex none (en_u (d + 2)) (en_code 150) (fun _ => false) (86, cl, [], t1, n, 0) Q) : ∀ j k cl t0, k + j = days → 1 ≤ k → ai_HG ah_G t0 → (∀ c i, ¬ ((148 ≤ c ∧ c ≤ 178) ∨ c = 146 ∨ (c = 144 ∧ i = 0) ∨ c = 234) → ai_hv t0 c i = ai_hv tb c i) → (∀ x, 1 ≤ x → x ≤ days → ai_hv t0 146 x = some (.inl (wlo L x))) → CI t0 (wlo L) days k 1 → (∃ w, ai_hv t0 144 0 = some (.inl w) ∧ (2 ≤ days → k = days → w = lb (lK (wlo L) (LT (wlo L)) 1 days) 1 (days - 1 - 1)) ∧ (days = 1 → w = 4294967295)) → en_ld cl 0 = some (gx_r 144) → en_ld cl 1 = some (gx_r 233) → en_ld cl 2 = some (.inl days) → en_ld cl 3 = some (.inl k) → en_ex none (en_u (d + 2)) (en_code 150) (fun _ => false) (44, cl, [], t0, n, 0) Q := by
  intro j
  induction j with
  | zero =>
    intro k cl t0 hj hk g0 e0 hP hI hw h0 h1 h2 h3
    refine gx_ld (i := 3) (d := 0) (v := .inl k) rfl (fun _ => rfl) h3 rfl rfl ?_
    refine gx_ld (i := 2) (d := 0) (v := .inl days) rfl (fun _ => rfl) h2 rfl rfl ?_
    refine gx_2t (c := .ge) rfl (by first | decide | omega) (by first | decide | omega) (show days ≤ k from by omega) rfl ?_
    obtain ⟨w, w1, w2, w3⟩ := hw
    have hkd : k = days := by omega
    subst hkd
    exact hQ _ t0 g0 e0 hI ⟨w, w1, fun z => w2 z rfl, w3⟩
  | succ j ih =>
    intro k cl t0 hj hk g0 e0 hP hI hw h0 h1 h2 h3
    refine gx_ld (i := 3) (d := 0) (v := .inl k) rfl (fun _ => rfl) h3 rfl rfl ?_
    refine gx_ld (i := 2) (d := 0) (v := .inl days) rfl (fun _ => rfl) h2 rfl rfl ?_
    refine gx_2f (c := .ge) rfl (by first | decide | omega) (by first | decide | omega) (show ¬ (days ≤ k) from by omega) rfl ?_
    refine ex_go (S := (50, cl, [.inl 1], t0, n, 0)) rfl (fun _ => rfl) rfl ?_
    refine gx_sto (i := 4) (d := 0) rfl (fun _ => rfl) rfl rfl (fun l1 hl1 ml1 => ?_)
    have l1_0 : en_ld l1 0 = some (gx_r 144) := ml1 0 _ h0 rfl
    have l1_1 : en_ld l1 1 = some (gx_r 233) := ml1 1 _ h1 rfl
    have l1_2 : en_ld l1 2 = some (.inl days) := ml1 2 _ h2 rfl
    have l1_3 : en_ld l1 3 = some (.inl k) := ml1 3 _ h3 rfl
    obtain ⟨w, w1, w2, w3⟩ := hw
    refine pc_looks233_b d n (tb := tb) hR hd1 hd2 hW (by first | decide | omega) (by first | decide | omega) (fun cl1 t1 g1 e1 hP1 hI1 hw1 m0 m1 m2 m3 => ?_) (days - k) 1 _ t0 (by first | decide | omega) (by first | decide | omega) g0 e0 hP hI ⟨w, w1, fun _ z => absurd z (by first | decide | omega)⟩ l1_0 l1_1 l1_2 l1_3 hl1
    refine gx_incS (i := 3) (a := k) (x := 1) rfl (fun _ => rfl) m3 (by first | decide | omega) rfl (fun l2 hl2 ml2 => ?_)
    have l2_0 : en_ld l2 0 = some (gx_r 144) := ml2 0 _ m0 rfl
    have l2_1 : en_ld l2 1 = some (gx_r 233) := ml2 1 _ m1 rfl
    have l2_2 : en_ld l2 2 = some (.inl days) := ml2 2 _ m2 rfl
    refine ex_go (S := (44, l2, [], t1, n, 0)) rfl (fun _ => rfl) rfl ?_
    obtain ⟨w8, w7, w6⟩ := hw1
    exact ih (k + 1) _ t1 (by first | decide | omega) (by first | decide | omega) g1 e1 hP1 hI1 ⟨w8, w7, fun _ z => w6 z, fun z => absurd z (by first | decide | omega)⟩ l2_0 l2_1 l2_2 hl2
theorem pc_looks233 (d n : Nat) {t0 : en_H} {days : Nat} {L : List Nat} (g0 : ai_HG ah_G t0) (hR : CR t0) (hd1 : 1 ≤ days) (hd2 : days ≤ 30) (hW : ∀ d, wlo L d ≤ 99) (kb : ai_hv t0 233 2 = some (.inl L.length)) (hs : L.length ≤ 1000) (hc : cco t0 233 0 L) (hv : ∀ z, z ∈ L → ∃ fh, vo fh z) (hr : hrun 25 L 0 = some 1) : ∃ r, en_u (d + 3) 150 [gx_r 144, gx_r 233, .inl days] t0 n = some r ∧ ∃ t', r = (none, t', n, 0) ∧ ai_HG ah_G t' ∧ (∀ c i, ¬ ((148 ≤ c ∧ c ≤ 178) ∨ c = 146 ∨ (c = 144 ∧ i = 0) ∨ c = 234) → ai_hv t' c i = ai_hv t0 c i) ∧ CI t' (wlo L) days days 1 ∧ ∃ w, ai_hv t' 144 0 = some (.inl w) ∧ (2 ≤ days → w = lb (lK (wlo L) (LT (wlo L)) 1 days) 1 (days - 1 - 1)) ∧ (days = 1 → w = 4294967295) := by
  refine en_u_ex (d := d + 2) rfl ?_
  show en_ex _ _ _ _ (0, [(0, gx_r 144), (1, gx_r 233), (2, .inl days)], [], t0, n, 0) _
  refine ex_go (S := (1, [(0, gx_r 144), (1, gx_r 233), (2, .inl days)], [gx_r 144], t0, n, 0)) rfl (fun _ => rfl) rfl ?_
  refine ex_go (S := (2, [(0, gx_r 144), (1, gx_r 233), (2, .inl days)], [.inl 4294967295, gx_r 144], t0, n, 0)) rfl (fun _ => rfl) rfl ?_
  refine gxo_put (a := 144) rfl g0 rfl rfl rfl ⟨_, rfl, by decide, by decide, by decide⟩ rfl (fun t101 g101 k101 e101 => ?_)
  refine ex_go (S := (6, [(0, gx_r 144), (1, gx_r 233), (2, .inl days)], [.inl 1], t101, n, 0)) rfl (fun _ => rfl) rfl ?_
  refine ex_go (S := (7, [(3, .inl 1), (0, gx_r 144), (1, gx_r 233), (2, .inl days)], [], t101, n, 0)) rfl (fun _ => rfl) rfl ?_
  refine pc_looks233_a d n (tb := t101) (fun q hq => (e101 147 q (by first | decide | omega)).trans (hR q hq)) hd1 hd2 hW ((e101 233 2 (by first | decide | omega)).trans kb) hs (cco_keep (fun i => e101 235 i (by first | decide | omega)) hc) hv hr (fun cl1 ty gy ey hIy m0 m1 m2 => ?_) days 1 _ t101 (by first | decide | omega) (by first | decide | omega) g101 (fun _ _ _ => rfl) (fun x a1 a2 => absurd a2 (by first | decide | omega)) rfl rfl rfl rfl
  refine ex_go (S := (43, cl1, [.inl 1], ty, n, 0)) rfl (fun _ => rfl) rfl ?_
  refine gx_sto (i := 3) (d := 0) rfl (fun _ => rfl) rfl rfl (fun l2 hl2 ml2 => ?_)
  have l2_0 : en_ld l2 0 = some (gx_r 144) := ml2 0 _ m0 rfl
  have l2_1 : en_ld l2 1 = some (gx_r 233) := ml2 1 _ m1 rfl
  have l2_2 : en_ld l2 2 = some (.inl days) := ml2 2 _ m2 rfl
  have hw9 : ai_hv ty 144 0 = some (.inl 4294967295) := (ey 144 0 (by first | decide | omega)).trans k101
  refine ex_imp (fun o9 h9 => ?_) (pc_looks233_c d n (tb := ty) (Q := fun o => ∃ t9, o = .inl (none, t9, n, 0) ∧ ai_HG ah_G t9 ∧ (∀ c i, ¬ ((148 ≤ c ∧ c ≤ 178) ∨ c = 146 ∨ (c = 144 ∧ i = 0) ∨ c = 234) → ai_hv t9 c i = ai_hv ty c i) ∧ CI t9 (wlo L) days days 1 ∧ ∃ w, ai_hv t9 144 0 = some (.inl w) ∧ (2 ≤ days → w = lb (lK (wlo L) (LT (wlo L)) 1 days) 1 (days - 1 - 1)) ∧ (days = 1 → w = 4294967295)) (fun q hq => (ey 147 q (by first | decide | omega)).trans ((e101 147 q (by first | decide | omega)).trans (hR q hq))) hd1 hd2 hW (fun cl2 tz gz9 ez hIz hwz => ?_) (days - 1) 1 _ ty (by first | decide | omega) (by first | decide | omega) gy (fun _ _ _ => rfl) (fun x a1 a2 => (hIy x a1 (by first | decide | omega)).1) (fun f l a1 a2 a3 a4 => ?_) ⟨_, hw9, fun z1 z2 => absurd z2 (by first | decide | omega), fun _ => rfl⟩ l2_0 l2_1 l2_2 hl2)
  · obtain ⟨t9, q1, q2, q3, q4, q5⟩ := h9
    exact ⟨_, q1, t9, rfl, q2, (fun c i h => (q3 c i h).trans ((ey c i (by first | decide | omega)).trans (e101 c i (by first | decide | omega)))), q4, q5⟩
  · refine ex_ret (r := (none, tz, n, 0)) rfl (fun _ => rfl) ?_
    exact ⟨tz, rfl, gz9, ez, hIz, hwz⟩
  · have e9 : l = f := by omega
    rw [e9, LT_0 (Nat.le_refl f)]
    exact (hIy f a1 (by first | decide | omega)).2
theorem pc_looks299_a (d n : Nat) {tb : en_H} {days : Nat} {L : List Nat} {Q : en_O → Prop} (hR : CR tb) (hd1 : 1 ≤ days) (hd2 : days ≤ 30) (hW : ∀ d, wlo L d ≤ 99) (kb : ai_hv tb 299 2 = some (.inl L.length)) (hs : L.length ≤ 1000) (hc : cco tb 299 0 L) (hv : ∀ z, z ∈ L → ∃ fh, vo fh z) (hr : hrun 25 L 0 = some 1) (hQ : ∀ cl t1, ai_HG ah_G t1 → (∀ c i, ¬ ((148 ≤ c ∧ c ≤ 178) ∨ c = 146 ∨ c = 300) → ai_hv t1 c i = ai_hv tb c i) → (∀ x, 1 ≤ x → x < days + 1 → ai_hv t1 146 x = some (.inl (wlo L x)) ∧ ai_hv t1 (148 + x) x = some (.inl 0)) → en_ld cl 0 = some (gx_r 144) → en_ld cl 1 = some (gx_r 299) → en_ld cl 2 = some (.inl days) → en_ex none (en_u (d + 2)) (en_code 150) (fun _ => false) (42, cl, [], t1, n, 0) Q) : ∀ j k cl t0, k + j = days + 1 → 1 ≤ k → ai_HG ah_G t0 → (∀ c i, ¬ ((148 ≤ c ∧ c ≤ 178) ∨ c = 146 ∨ c = 300) → ai_hv t0 c i = ai_hv tb c i) → (∀ x, 1 ≤ x → x < k → ai_hv t0 146 x = some (.inl (wlo L x)) ∧ ai_hv t0 (148 + x) x = some (.inl 0)) → en_ld cl 0 = some (gx_r 144) → en_ld cl 1 = some (gx_r 299) → en_ld cl 2 = some (.inl days) → en_ld cl 3 = some (.inl k) → en_ex none (en_u (d + 2)) (en_code 150) (fun _ => false) (7, cl, [], t0, n, 0) Q := by
  intro j
  induction j with
  | zero =>
    intro k cl t0 hj hk g0 e0 hI h0 h1 h2 h3
    refine gx_ld (i := 3) (d := 0) (v := .inl k) rfl (fun _ => rfl) h3 rfl rfl ?_
    refine gx_ld (i := 2) (d := 0) (v := .inl days) rfl (fun _ => rfl) h2 rfl rfl ?_
    refine gx_2t (c := .gt) rfl (by first | decide | omega) (by first | decide | omega) (show days < k from by omega) rfl ?_
    have hkd : k = days + 1 := by omega
    subst hkd
    exact hQ _ t0 g0 e0 hI h0 h1 h2
  | succ j ih =>
    intro k cl t0 hj hk g0 e0 hI h0 h1 h2 h3
    refine gx_ld (i := 3) (d := 0) (v := .inl k) rfl (fun _ => rfl) h3 rfl rfl ?_
    refine gx_ld (i := 2) (d := 0) (v := .inl days) rfl (fun _ => rfl) h2 rfl rfl ?_
    refine gx_2f (c := .gt) rfl (by first | decide | omega) (by first | decide | omega) (show ¬ (days < k) from by omega) rfl ?_
    refine gx_ld (i := 0) (d := 2) (v := gx_r 144) rfl (fun _ => rfl) h0 rfl rfl ?_
    refine gxo_ref (a := 144) (c := 146) rfl g0 rfl rfl rfl rfl rfl ?_
    refine gx_ld (i := 3) (d := 0) (v := .inl k) rfl (fun _ => rfl) h3 rfl rfl ?_
    refine gx_ld (i := 1) (d := 2) (v := gx_r 299) rfl (fun _ => rfl) h1 rfl rfl ?_
    refine ex_go (S := (20, cl, [.inl 99, gx_r 299, .inl k, gx_r 146], t0, n, 0)) rfl (fun _ => rfl) rfl ?_
    refine ex_go (S := (21, cl, [.inl 0, .inl 99, gx_r 299, .inl k, gx_r 146], t0, n, 0)) rfl (fun _ => rfl) rfl ?_
    refine gx_ld (i := 3) (d := 0) (v := .inl k) rfl (fun _ => rfl) h3 rfl rfl ?_
    refine ex_go (S := (23, cl, [.inl 0, .inl k, .inl 0, .inl 99, gx_r 299, .inl k, gx_r 146], t0, n, 0)) rfl (fun _ => rfl) rfl ?_
    obtain ⟨_, r101, v101, t101, rfl, hv101, vb101, g101, e101⟩ := pc_value299 d n (mo := 99) (me := 0) (ti := k) (ou := 0) (L := L) g0 (by decide) (by decide) (by first | decide | omega) (by decide) ((e0 299 2 (by first | decide | omega)).trans kb) hs (cco_keep (fun i => e0 301 i (by first | decide | omega)) hc) hv hr
    have hw9 : vcl 99 v101 = wlo L k := by unfold wlo; rw [hv101]; rfl
    rw [hw9] at r101
    have hp9 := hW k
    refine gx_callo (a := 299) rfl rfl g0 rfl rfl rfl r101 rfl ?_
    show en_ex _ _ _ _ (26, cl, [.inl (wlo L k), .inl k, gx_r 146], t101, n, 0) _
    refine gx_ap rfl (fun _ => rfl) g101 rfl rfl rfl (show k < 31 from by omega) (gx_run1 (show k < 31 from by omega)) (gx_full (by first | decide | omega)) rfl (fun t102 g102 k102 e102 => ?_)
    refine gx_ld (i := 0) (d := 2) (v := gx_r 144) rfl (fun _ => rfl) h0 rfl rfl ?_
    refine gxo_ref (a := 144) (c := 147) rfl g102 rfl rfl rfl rfl rfl ?_
    refine gx_ld (i := 3) (d := 0) (v := .inl k) rfl (fun _ => rfl) h3 rfl rfl ?_
    refine gx_ag (v := gx_r (148 + k)) (cb := fun c => Nat.ble 4 c && Nat.ble c 7) rfl (fun _ => rfl) g102 rfl rfl ((e102 147 k (by first | decide | omega)).trans ((e101 147 k (by first | decide | omega)).trans ((e0 147 k (by first | decide | omega)).trans (hR k (by first | decide | omega))))) (by first | decide | omega) rfl ?_
    refine gx_ld (i := 3) (d := 0) (v := .inl k) rfl (fun _ => rfl) h3 rfl rfl ?_
    refine ex_go (S := (35, cl, [.inl 0, .inl k, gx_r (148 + k)], t102, n, 0)) rfl (fun _ => rfl) rfl ?_
    refine gx_ap (c := 148 + k) rfl (fun _ => rfl) g102 (cst_G (by first | decide | omega)) rfl rfl (show k < 31 from by omega) (gx_run1 (show k < 31 from by omega)) (gx_full (by first | decide | omega)) rfl (fun t103 g103 k103 e103 => ?_)
    have k4 : ai_hv t103 146 k = some (.inl (wlo L k)) := (e103 146 k (by first | decide | omega)).trans k102
    refine gx_incS (i := 3) (a := k) (x := 1) rfl (fun _ => rfl) h3 (by first | decide | omega) rfl (fun l5 hl5 ml5 => ?_)
    have l5_0 : en_ld l5 0 = some (gx_r 144) := ml5 0 _ h0 rfl
    have l5_1 : en_ld l5 1 = some (gx_r 299) := ml5 1 _ h1 rfl
    have l5_2 : en_ld l5 2 = some (.inl days) := ml5 2 _ h2 rfl
    refine ex_go (S := (7, l5, [], t103, n, 0)) rfl (fun _ => rfl) rfl ?_
    have hI2 : (∀ x, 1 ≤ x → x < k + 1 → ai_hv t103 146 x = some (.inl (wlo L x)) ∧ ai_hv t103 (148 + x) x = some (.inl 0)) := fun x a1 a2 => by
      by_cases e9 : x = k
      · subst e9
        exact ⟨(e103 146 x (by first | decide | omega)).trans k102, k103⟩
      · exact ⟨((e103 146 x (by first | decide | omega)).trans ((e102 146 x (by first | decide | omega)).trans (e101 146 x (by first | decide | omega)))).trans (hI x a1 (by first | decide | omega)).1, ((e103 (148 + x) x (by first | decide | omega)).trans ((e102 (148 + x) x (by first | decide | omega)).trans (e101 (148 + x) x (by first | decide | omega)))).trans (hI x a1 (by first | decide | omega)).2⟩
    exact ih (k + 1) _ t103 (by first | decide | omega) (by first | decide | omega) g103 (fun c i h => ((e103 c i (by first | decide | omega)).trans ((e102 c i (by first | decide | omega)).trans (e101 c i (by first | decide | omega)))).trans (e0 c i h)) hI2 l5_0 l5_1 l5_2 hl5
theorem pc_looks299_b (d n : Nat) {tb : en_H} {days k : Nat} {L : List Nat} {Q : en_O → Prop} (hR : CR tb) (hd1 : 1 ≤ days) (hd2 : days ≤ 30) (hW : ∀ d, wlo L d ≤ 99) (hk1 : 1 ≤ k) (hk2 : k < days) (hQ : ∀ cl t1, ai_HG ah_G t1 → (∀ c i, ¬ ((148 ≤ c ∧ c ≤ 178) ∨ c = 146 ∨ (c = 144 ∧ i = 0) ∨ c = 300) → ai_hv t1 c i = ai_hv tb c i) → (∀ x, 1 ≤ x → x ≤ days → ai_hv t1 146 x = some (.inl (wlo L x))) → CI t1 (wlo L) days (k + 1) 1 → (∃ w, ai_hv t1 144 0 = some (.inl w) ∧ (k + 1 = days → w = lb (lK (wlo L) (LT (wlo L)) 1 days) 1 (days - 1 - 1))) → en_ld cl 0 = some (gx_r 144) → en_ld cl 1 = some (gx_r 299) → en_ld cl 2 = some (.inl days) → en_ld cl 3 = some (.inl k) → en_ex none (en_u (d + 2)) (en_code 150) (fun _ => false) (80, cl, [], t1, n, 0) Q) : ∀ j F cl t0, F + k + j = days + 1 → 1 ≤ F → ai_HG ah_G t0 → (∀ c i, ¬ ((148 ≤ c ∧ c ≤ 178) ∨ c = 146 ∨ (c = 144 ∧ i = 0) ∨ c = 300) → ai_hv t0 c i = ai_hv tb c i) → (∀ x, 1 ≤ x → x ≤ days → ai_hv t0 146 x = some (.inl (wlo L x))) → CI t0 (wlo L) days k F → (∃ w, ai_hv t0 144 0 = some (.inl w) ∧ (k + 1 = days → F = 2 → w = lb (lK (wlo L) (LT (wlo L)) 1 days) 1 (days - 1 - 1))) → en_ld cl 0 = some (gx_r 144) → en_ld cl 1 = some (gx_r 299) → en_ld cl 2 = some (.inl days) → en_ld cl 3 = some (.inl k) → en_ld cl 4 = some (.inl F) → en_ex none (en_u (d + 2)) (en_code 150) (fun _ => false) (52, cl, [], t0, n, 0) Q := by
  intro j
  induction j with
  | zero =>
    intro F cl t0 hj hF g0 e0 hP hI hw h0 h1 h2 h3 h4
    refine gx_ld (i := 4) (d := 0) (v := .inl F) rfl (fun _ => rfl) h4 rfl rfl ?_
    refine gx_ld (i := 3) (d := 0) (v := .inl k) rfl (fun _ => rfl) h3 rfl rfl ?_
    refine ex_iadd rfl (by first | decide | omega) rfl ?_
    refine gx_ld (i := 2) (d := 0) (v := .inl days) rfl (fun _ => rfl) h2 rfl rfl ?_
    refine gx_2t (c := .gt) rfl (by first | decide | omega) (by first | decide | omega) (show days < F + k from by omega) rfl ?_
    obtain ⟨w, w1, w2⟩ := hw
    exact hQ _ t0 g0 e0 hP (fun f l a1 a2 a3 a4 => hI f l a1 a2 a3 (by first | decide | omega)) ⟨w, w1, fun z => w2 z (by first | decide | omega)⟩ h0 h1 h2 h3
  | succ j ih =>
    intro F cl t0 hj hF g0 e0 hP hI hw h0 h1 h2 h3 h4
    refine gx_ld (i := 4) (d := 0) (v := .inl F) rfl (fun _ => rfl) h4 rfl rfl ?_
    refine gx_ld (i := 3) (d := 0) (v := .inl k) rfl (fun _ => rfl) h3 rfl rfl ?_
    refine ex_iadd rfl (by first | decide | omega) rfl ?_
    refine gx_ld (i := 2) (d := 0) (v := .inl days) rfl (fun _ => rfl) h2 rfl rfl ?_
    refine gx_2f (c := .gt) rfl (by first | decide | omega) (by first | decide | omega) (show ¬ (days < F + k) from by omega) rfl ?_
    refine gx_ld (i := 0) (d := 2) (v := gx_r 144) rfl (fun _ => rfl) h0 rfl rfl ?_
    refine gx_ld (i := 0) (d := 2) (v := gx_r 144) rfl (fun _ => rfl) h0 rfl rfl ?_
    refine gx_ld (i := 4) (d := 0) (v := .inl F) rfl (fun _ => rfl) h4 rfl rfl ?_
    refine gx_ld (i := 4) (d := 0) (v := .inl F) rfl (fun _ => rfl) h4 rfl rfl ?_
    refine gx_ld (i := 3) (d := 0) (v := .inl k) rfl (fun _ => rfl) h3 rfl rfl ?_
    refine ex_iadd rfl (by first | decide | omega) rfl ?_
    obtain ⟨_, r101, t101, rfl, g101, e101, kf101⟩ := pc_fillLook (d + 1) n (W := wlo L) (f := F) (l := F + k) g0 (fun q hq => (e0 147 q (by first | decide | omega)).trans (hR q hq)) hW (by first | decide | omega) (by first | decide | omega) (by first | decide | omega) (fun x a1 a2 => hP x a1 (by first | decide | omega)) (fun x a1 a2 => ⟨hI F x (by first | decide | omega) (by first | decide | omega) (by first | decide | omega) (by first | decide | omega), hI (x + 1) (F + k) (by first | decide | omega) (by first | decide | omega) (by first | decide | omega) (by first | decide | omega)⟩)
    have hbi := lb_in (lK (wlo L) (LT (wlo L)) F (F + k)) F (F + k - F - 1)
    refine gx_callo (a := 144) rfl rfl g0 rfl rfl rfl r101 rfl ?_
    show en_ex _ _ _ _ (71, cl, [.inl (lb (lK (wlo L) (LT (wlo L)) F (F + k)) F (F + k - F - 1)), gx_r 144], t101, n, 0) _
    refine gxo_put (a := 144) rfl g101 rfl rfl rfl (ai_in_h (by first | decide | omega) (by first | decide | omega) (by first | decide | omega)) rfl (fun t102 g102 k102 e102 => ?_)
    refine gx_incS (i := 4) (a := F) (x := 1) rfl (fun _ => rfl) h4 (by first | decide | omega) rfl (fun l3 hl3 ml3 => ?_)
    have l3_0 : en_ld l3 0 = some (gx_r 144) := ml3 0 _ h0 rfl
    have l3_1 : en_ld l3 1 = some (gx_r 299) := ml3 1 _ h1 rfl
    have l3_2 : en_ld l3 2 = some (.inl days) := ml3 2 _ h2 rfl
    have l3_3 : en_ld l3 3 = some (.inl k) := ml3 3 _ h3 rfl
    refine ex_go (S := (52, l3, [], t102, n, 0)) rfl (fun _ => rfl) rfl ?_
    have hI2 : CI t102 (wlo L) days k (F + 1) := fun f l a1 a2 a3 a4 => by
      by_cases e9 : f = F ∧ l = F + k
      · obtain ⟨e8, e7⟩ := e9
        subst e8
        rw [e7]
        exact (e102 (148 + f) (f + k) (by first | decide | omega)).trans kf101
      · exact ((e102 (148 + f) l (by first | decide | omega)).trans (e101 (148 + f) l (by first | decide | omega))).trans (hI f l a1 a2 a3 (by first | decide | omega))
    exact ih (F + 1) _ t102 (by first | decide | omega) (by first | decide | omega) g102 (fun c i h => ((e102 c i (by first | decide | omega)).trans (e101 c i (by first | decide | omega))).trans (e0 c i h)) (fun x a1 a2 => ((e102 146 x (by first | decide | omega)).trans (e101 146 x (by first | decide | omega))).trans (hP x a1 a2)) hI2 ⟨_, k102, fun z1 z2 => by
      have z3 : F = 1 := by omega
      subst z3
      rw [show 1 + k = days by omega]⟩ l3_0 l3_1 l3_2 l3_3 hl3
theorem pc_looks299_c (d n : Nat) {tb : en_H} {days : Nat} {L : List Nat} {Q : en_O → Prop} (hR : CR tb) (hd1 : 1 ≤ days) (hd2 : days ≤ 30) (hW : ∀ d, wlo L d ≤ 99) (hQ : ∀ cl t1, ai_HG ah_G t1 → (∀ c i, ¬ ((148 ≤ c ∧ c ≤ 178) ∨ c = 146 ∨ (c = 144 ∧ i = 0) ∨ c = 300) → ai_hv t1 c i = ai_hv tb c i) → CI t1 (wlo L) days days 1 → (∃ w, ai_hv t1 144 0 = some (.inl w) ∧ (2 ≤ days → w = lb (lK (wlo L) (LT (wlo L)) 1 days) 1 (days - 1 - 1)) ∧ (days = 1 → w = 4294967295)) → en_ex none (en_u (d + 2)) (en_code 150) (fun _ => false) (86, cl, [], t1, n, 0) Q) : ∀ j k cl t0, k + j = days → 1 ≤ k → ai_HG ah_G t0 → (∀ c i, ¬ ((148 ≤ c ∧ c ≤ 178) ∨ c = 146 ∨ (c = 144 ∧ i = 0) ∨ c = 300) → ai_hv t0 c i = ai_hv tb c i) → (∀ x, 1 ≤ x → x ≤ days → ai_hv t0 146 x = some (.inl (wlo L x))) → CI t0 (wlo L) days k 1 → (∃ w, ai_hv t0 144 0 = some (.inl w) ∧ (2 ≤ days → k = days → w = lb (lK (wlo L) (LT (wlo L)) 1 days) 1 (days - 1 - 1)) ∧ (days = 1 → w = 4294967295)) → en_ld cl 0 = some (gx_r 144) → en_ld cl 1 = some (gx_r 299) → en_ld cl 2 = some (.inl days) → en_ld cl 3 = some (.inl k) → en_ex none (en_u (d + 2)) (en_code 150) (fun _ => false) (44, cl, [], t0, n, 0) Q := by
  intro j
  induction j with
  | zero =>
    intro k cl t0 hj hk g0 e0 hP hI hw h0 h1 h2 h3
    refine gx_ld (i := 3) (d := 0) (v := .inl k) rfl (fun _ => rfl) h3 rfl rfl ?_
    refine gx_ld (i := 2) (d := 0) (v := .inl days) rfl (fun _ => rfl) h2 rfl rfl ?_
    refine gx_2t (c := .ge) rfl (by first | decide | omega) (by first | decide | omega) (show days ≤ k from by omega) rfl ?_
    obtain ⟨w, w1, w2, w3⟩ := hw
    have hkd : k = days := by omega
    subst hkd
    exact hQ _ t0 g0 e0 hI ⟨w, w1, fun z => w2 z rfl, w3⟩
  | succ j ih =>
    intro k cl t0 hj hk g0 e0 hP hI hw h0 h1 h2 h3
    refine gx_ld (i := 3) (d := 0) (v := .inl k) rfl (fun _ => rfl) h3 rfl rfl ?_
    refine gx_ld (i := 2) (d := 0) (v := .inl days) rfl (fun _ => rfl) h2 rfl rfl ?_
    refine gx_2f (c := .ge) rfl (by first | decide | omega) (by first | decide | omega) (show ¬ (days ≤ k) from by omega) rfl ?_
    refine ex_go (S := (50, cl, [.inl 1], t0, n, 0)) rfl (fun _ => rfl) rfl ?_
    refine gx_sto (i := 4) (d := 0) rfl (fun _ => rfl) rfl rfl (fun l1 hl1 ml1 => ?_)
    have l1_0 : en_ld l1 0 = some (gx_r 144) := ml1 0 _ h0 rfl
    have l1_1 : en_ld l1 1 = some (gx_r 299) := ml1 1 _ h1 rfl
    have l1_2 : en_ld l1 2 = some (.inl days) := ml1 2 _ h2 rfl
    have l1_3 : en_ld l1 3 = some (.inl k) := ml1 3 _ h3 rfl
    obtain ⟨w, w1, w2, w3⟩ := hw
    refine pc_looks299_b d n (tb := tb) hR hd1 hd2 hW (by first | decide | omega) (by first | decide | omega) (fun cl1 t1 g1 e1 hP1 hI1 hw1 m0 m1 m2 m3 => ?_) (days - k) 1 _ t0 (by first | decide | omega) (by first | decide | omega) g0 e0 hP hI ⟨w, w1, fun _ z => absurd z (by first | decide | omega)⟩ l1_0 l1_1 l1_2 l1_3 hl1
    refine gx_incS (i := 3) (a := k) (x := 1) rfl (fun _ => rfl) m3 (by first | decide | omega) rfl (fun l2 hl2 ml2 => ?_)
    have l2_0 : en_ld l2 0 = some (gx_r 144) := ml2 0 _ m0 rfl
    have l2_1 : en_ld l2 1 = some (gx_r 299) := ml2 1 _ m1 rfl
    have l2_2 : en_ld l2 2 = some (.inl days) := ml2 2 _ m2 rfl
    refine ex_go (S := (44, l2, [], t1, n, 0)) rfl (fun _ => rfl) rfl ?_
    obtain ⟨w8, w7, w6⟩ := hw1
    exact ih (k + 1) _ t1 (by first | decide | omega) (by first | decide | omega) g1 e1 hP1 hI1 ⟨w8, w7, fun _ z => w6 z, fun z => absurd z (by first | decide | omega)⟩ l2_0 l2_1 l2_2 hl2
theorem pc_looks299 (d n : Nat) {t0 : en_H} {days : Nat} {L : List Nat} (g0 : ai_HG ah_G t0) (hR : CR t0) (hd1 : 1 ≤ days) (hd2 : days ≤ 30) (hW : ∀ d, wlo L d ≤ 99) (kb : ai_hv t0 299 2 = some (.inl L.length)) (hs : L.length ≤ 1000) (hc : cco t0 299 0 L) (hv : ∀ z, z ∈ L → ∃ fh, vo fh z) (hr : hrun 25 L 0 = some 1) : ∃ r, en_u (d + 3) 150 [gx_r 144, gx_r 299, .inl days] t0 n = some r ∧ ∃ t', r = (none, t', n, 0) ∧ ai_HG ah_G t' ∧ (∀ c i, ¬ ((148 ≤ c ∧ c ≤ 178) ∨ c = 146 ∨ (c = 144 ∧ i = 0) ∨ c = 300) → ai_hv t' c i = ai_hv t0 c i) ∧ CI t' (wlo L) days days 1 ∧ ∃ w, ai_hv t' 144 0 = some (.inl w) ∧ (2 ≤ days → w = lb (lK (wlo L) (LT (wlo L)) 1 days) 1 (days - 1 - 1)) ∧ (days = 1 → w = 4294967295) := by
  refine en_u_ex (d := d + 2) rfl ?_
  show en_ex _ _ _ _ (0, [(0, gx_r 144), (1, gx_r 299), (2, .inl days)], [], t0, n, 0) _
  refine ex_go (S := (1, [(0, gx_r 144), (1, gx_r 299), (2, .inl days)], [gx_r 144], t0, n, 0)) rfl (fun _ => rfl) rfl ?_
  refine ex_go (S := (2, [(0, gx_r 144), (1, gx_r 299), (2, .inl days)], [.inl 4294967295, gx_r 144], t0, n, 0)) rfl (fun _ => rfl) rfl ?_
  refine gxo_put (a := 144) rfl g0 rfl rfl rfl ⟨_, rfl, by decide, by decide, by decide⟩ rfl (fun t101 g101 k101 e101 => ?_)
  refine ex_go (S := (6, [(0, gx_r 144), (1, gx_r 299), (2, .inl days)], [.inl 1], t101, n, 0)) rfl (fun _ => rfl) rfl ?_
  refine ex_go (S := (7, [(3, .inl 1), (0, gx_r 144), (1, gx_r 299), (2, .inl days)], [], t101, n, 0)) rfl (fun _ => rfl) rfl ?_
  refine pc_looks299_a d n (tb := t101) (fun q hq => (e101 147 q (by first | decide | omega)).trans (hR q hq)) hd1 hd2 hW ((e101 299 2 (by first | decide | omega)).trans kb) hs (cco_keep (fun i => e101 301 i (by first | decide | omega)) hc) hv hr (fun cl1 ty gy ey hIy m0 m1 m2 => ?_) days 1 _ t101 (by first | decide | omega) (by first | decide | omega) g101 (fun _ _ _ => rfl) (fun x a1 a2 => absurd a2 (by first | decide | omega)) rfl rfl rfl rfl
  refine ex_go (S := (43, cl1, [.inl 1], ty, n, 0)) rfl (fun _ => rfl) rfl ?_
  refine gx_sto (i := 3) (d := 0) rfl (fun _ => rfl) rfl rfl (fun l2 hl2 ml2 => ?_)
  have l2_0 : en_ld l2 0 = some (gx_r 144) := ml2 0 _ m0 rfl
  have l2_1 : en_ld l2 1 = some (gx_r 299) := ml2 1 _ m1 rfl
  have l2_2 : en_ld l2 2 = some (.inl days) := ml2 2 _ m2 rfl
  have hw9 : ai_hv ty 144 0 = some (.inl 4294967295) := (ey 144 0 (by first | decide | omega)).trans k101
  refine ex_imp (fun o9 h9 => ?_) (pc_looks299_c d n (tb := ty) (Q := fun o => ∃ t9, o = .inl (none, t9, n, 0) ∧ ai_HG ah_G t9 ∧ (∀ c i, ¬ ((148 ≤ c ∧ c ≤ 178) ∨ c = 146 ∨ (c = 144 ∧ i = 0) ∨ c = 300) → ai_hv t9 c i = ai_hv ty c i) ∧ CI t9 (wlo L) days days 1 ∧ ∃ w, ai_hv t9 144 0 = some (.inl w) ∧ (2 ≤ days → w = lb (lK (wlo L) (LT (wlo L)) 1 days) 1 (days - 1 - 1)) ∧ (days = 1 → w = 4294967295)) (fun q hq => (ey 147 q (by first | decide | omega)).trans ((e101 147 q (by first | decide | omega)).trans (hR q hq))) hd1 hd2 hW (fun cl2 tz gz9 ez hIz hwz => ?_) (days - 1) 1 _ ty (by first | decide | omega) (by first | decide | omega) gy (fun _ _ _ => rfl) (fun x a1 a2 => (hIy x a1 (by first | decide | omega)).1) (fun f l a1 a2 a3 a4 => ?_) ⟨_, hw9, fun z1 z2 => absurd z2 (by first | decide | omega), fun _ => rfl⟩ l2_0 l2_1 l2_2 hl2)
  · obtain ⟨t9, q1, q2, q3, q4, q5⟩ := h9
    exact ⟨_, q1, t9, rfl, q2, (fun c i h => (q3 c i h).trans ((ey c i (by first | decide | omega)).trans (e101 c i (by first | decide | omega)))), q4, q5⟩
  · refine ex_ret (r := (none, tz, n, 0)) rfl (fun _ => rfl) ?_
    exact ⟨tz, rfl, gz9, ez, hIz, hwz⟩
  · have e9 : l = f := by omega
    rw [e9, LT_0 (Nat.le_refl f)]
    exact (hIy f a1 (by first | decide | omega)).2
theorem pc_lookCost (d n : Nat) {t0 : en_H} {f l v : Nat} (g0 : ai_HG ah_G t0) (hR : CR t0) (hf : f ≤ 30) (hl : l ≤ 30) (k : ai_hv t0 (148 + f) l = some (.inl v)) : ∃ r, en_u (d + 1) 151 [gx_r 144, .inl f, .inl l] t0 n = some r ∧ r = (some (.inl v), t0, n, 0) := by
  refine en_u_ex rfl ?_
  show en_ex _ _ _ _ (0, [(0, gx_r 144), (1, .inl f), (2, .inl l)], [], t0, n, 0) _
  refine ex_go (S := (1, [(0, gx_r 144), (1, .inl f), (2, .inl l)], [gx_r 144], t0, n, 0)) rfl (fun _ => rfl) rfl ?_
  refine gxo_ref (a := 144) (c := 147) rfl g0 rfl rfl rfl rfl rfl ?_
  refine ex_go (S := (5, [(0, gx_r 144), (1, .inl f), (2, .inl l)], [.inl f, gx_r 147], t0, n, 0)) rfl (fun _ => rfl) rfl ?_
  refine gx_ag (v := gx_r (148 + f)) (cb := fun c => Nat.ble 4 c && Nat.ble c 7) rfl (fun _ => rfl) g0 rfl rfl (hR f (by first | decide | omega)) (by first | decide | omega) rfl ?_
  refine ex_go (S := (7, [(0, gx_r 144), (1, .inl f), (2, .inl l)], [.inl l, gx_r (148 + f)], t0, n, 0)) rfl (fun _ => rfl) rfl ?_
  refine gx_ag (c := 148 + f) (v := .inl v) (cb := fun c => Nat.beq c 0) rfl (fun _ => rfl) g0 (cst_G (by first | decide | omega)) rfl (k) (by first | decide | omega) rfl ?_
  refine ex_ret (r := (some (.inl v), t0, n, 0)) rfl (fun _ => rfl) ?_
  exact ⟨_, rfl, rfl⟩
theorem pc_lost191 (d n : Nat) {t0 : en_H} {days wh : Nat} {L : List Nat} (g0 : ai_HG ah_G t0) (hx : days < 4294967296) (hy : wh < 4294967296) (hR : CR t0) (kp : ai_hv t0 0 10 = some (gx_r 191)) (kb : ai_hv t0 233 2 = some (.inl L.length)) (hs : L.length ≤ 1000) (hc : cco t0 233 0 L) (hv : ∀ z, z ∈ L → ∃ fh, vo fh z) (hr : hrun 25 L 0 = some 1) : ∃ r, en_u (d + 4) 75 [gx_r 0, .inl days, .inl wh] t0 n = some r ∧ ∃ v t', r = (some (.inl v), t', n, 0) ∧ (¬ (1 ≤ days ∧ days ≤ 30 ∧ wh ≤ 1) → v = 4294967295) ∧ (1 ≤ days ∧ days ≤ 30 ∧ wh ≤ 1 → v = lostv (wlo L) days wh) := by
  have hW : ∀ d, wlo L d ≤ 99 := fun d => vcl_le
  refine en_u_ex (d := d + 3) rfl ?_
  show en_ex _ _ _ _ (0, [(0, gx_r 0), (1, .inl days), (2, .inl wh)], [], t0, n, 0) _
  refine ex_go (S := (1, [(0, gx_r 0), (1, .inl days), (2, .inl wh)], [.inl days], t0, n, 0)) rfl (fun _ => rfl) rfl ?_
  refine ex_go (S := (2, [(0, gx_r 0), (1, .inl days), (2, .inl wh)], [.inl 1, .inl days], t0, n, 0)) rfl (fun _ => rfl) rfl ?_
  refine ex_go (S := (4, [(0, gx_r 0), (1, .inl days), (2, .inl wh)], [.inl 30, .inl 1, .inl days], t0, n, 0)) rfl (fun _ => rfl) rfl ?_
  obtain ⟨_, r1, b2, rfl, b2b, q3⟩ := pz_isWithin (d + 2) n (t0 := t0) (x := days) (lo := 1) (hi := 30) (by first | decide | omega) (by first | decide | omega) (by first | decide | omega)
  refine ex_stat rfl rfl rfl rfl rfl r1 (Nat.le_refl _) rfl ?_
  show en_ex _ _ _ _ (7, [(0, gx_r 0), (1, .inl days), (2, .inl wh)], [.inl b2], t0, n, 0) _
  by_cases hc4 : b2 = 0
  · refine gx_1t (c := .eq) rfl (by first | decide | omega) hc4 rfl ?_
    refine ex_go (S := (20, [(0, gx_r 0), (1, .inl days), (2, .inl wh)], [.inl 4294967295], t0, n, 0)) rfl (fun _ => rfl) rfl ?_
    refine ex_ret (r := (some (.inl 4294967295), t0, n, 0)) rfl (fun _ => rfl) ?_
    exact ⟨_, rfl, _, t0, rfl, fun _ => rfl, fun z => absurd z (by first | decide | omega)⟩
  · refine gx_1f (c := .eq) rfl (by first | decide | omega) hc4 rfl ?_
    refine ex_go (S := (11, [(0, gx_r 0), (1, .inl days), (2, .inl wh)], [.inl wh], t0, n, 0)) rfl (fun _ => rfl) rfl ?_
    refine ex_go (S := (12, [(0, gx_r 0), (1, .inl days), (2, .inl wh)], [.inl 0, .inl wh], t0, n, 0)) rfl (fun _ => rfl) rfl ?_
    refine ex_go (S := (13, [(0, gx_r 0), (1, .inl days), (2, .inl wh)], [.inl 1, .inl 0, .inl wh], t0, n, 0)) rfl (fun _ => rfl) rfl ?_
    obtain ⟨_, r5, b6, rfl, b6b, q7⟩ := pz_isWithin (d + 2) n (t0 := t0) (x := wh) (lo := 0) (hi := 1) (by first | decide | omega) (by first | decide | omega) (by first | decide | omega)
    refine ex_stat rfl rfl rfl rfl rfl r5 (Nat.le_refl _) rfl ?_
    show en_ex _ _ _ _ (16, [(0, gx_r 0), (1, .inl days), (2, .inl wh)], [.inl b6], t0, n, 0) _
    by_cases hc8 : b6 ≠ 0
    · refine gx_1t (c := .ne) rfl (by first | decide | omega) hc8 rfl ?_
      refine ex_go (S := (22, [(0, gx_r 0), (1, .inl days), (2, .inl wh)], [gx_r 0], t0, n, 0)) rfl (fun _ => rfl) rfl ?_
      refine gxo_ref (a := 0) (c := 144) rfl g0 rfl rfl rfl rfl rfl ?_
      refine ex_go (S := (26, [(0, gx_r 0), (1, .inl days), (2, .inl wh)], [gx_r 0, gx_r 144], t0, n, 0)) rfl (fun _ => rfl) rfl ?_
      refine gxo_get (a := 0) rfl g0 rfl rfl kp rfl ?_
      refine gxo_ref (a := 191) (c := 233) rfl g0 rfl rfl rfl rfl rfl ?_
      refine ex_go (S := (33, [(0, gx_r 0), (1, .inl days), (2, .inl wh)], [.inl days, gx_r 233, gx_r 144], t0, n, 0)) rfl (fun _ => rfl) rfl ?_
      obtain ⟨_, r109, t109, rfl, g109, e109, hI, w, kw109, hw1, hw2⟩ := pc_looks233 d n (days := days) (L := L) g0 hR (by first | decide | omega) (by first | decide | omega) hW kb hs hc hv hr
      refine gx_callo (a := 144) rfl rfl g0 rfl rfl rfl r109 rfl ?_
      show en_ex _ _ _ _ (36, [(0, gx_r 0), (1, .inl days), (2, .inl wh)], [], t109, n, 0) _
      refine ex_go (S := (37, [(0, gx_r 0), (1, .inl days), (2, .inl wh)], [.inl wh], t109, n, 0)) rfl (fun _ => rfl) rfl ?_
      by_cases hc10 : wh ≠ 0
      · refine gx_1t (c := .ne) rfl (by first | decide | omega) hc10 rfl ?_
        refine ex_go (S := (53, [(0, gx_r 0), (1, .inl days), (2, .inl wh)], [gx_r 0], t109, n, 0)) rfl (fun _ => rfl) rfl ?_
        refine gxo_ref (a := 0) (c := 144) rfl g109 rfl rfl rfl rfl rfl ?_
        refine gxo_get (a := 144) rfl g109 rfl rfl kw109 rfl ?_
        refine ex_ret (r := (some (.inl w), t109, n, 0)) rfl (fun _ => rfl) ?_
        refine ⟨_, rfl, _, t109, rfl, fun z => absurd z (by first | decide | omega), fun _ => ?_⟩
        unfold lostv
        rw [if_neg (by first | decide | omega)]
        by_cases h1 : days = 1
        · rw [if_pos h1]; exact hw2 h1
        · rw [if_neg h1]; exact hw1 (by first | decide | omega)
      · refine gx_1f (c := .ne) rfl (by first | decide | omega) hc10 rfl ?_
        refine ex_go (S := (41, [(0, gx_r 0), (1, .inl days), (2, .inl wh)], [gx_r 0], t109, n, 0)) rfl (fun _ => rfl) rfl ?_
        refine gxo_ref (a := 0) (c := 144) rfl g109 rfl rfl rfl rfl rfl ?_
        refine ex_go (S := (45, [(0, gx_r 0), (1, .inl days), (2, .inl wh)], [.inl 1, gx_r 144], t109, n, 0)) rfl (fun _ => rfl) rfl ?_
        refine ex_go (S := (46, [(0, gx_r 0), (1, .inl days), (2, .inl wh)], [.inl days, .inl 1, gx_r 144], t109, n, 0)) rfl (fun _ => rfl) rfl ?_
        have hb9 := LT_b (W := wlo L) hW (f := 1) (l := days) (by first | decide | omega)
        obtain ⟨_, r11, rfl⟩ := pc_lookCost (d + 2) n (f := 1) (l := days) g109 (fun q hq => (e109 147 q (by first | decide | omega)).trans (hR q hq)) (by first | decide | omega) (by first | decide | omega) (hI 1 days (by first | decide | omega) (by first | decide | omega) (by first | decide | omega) (by first | decide | omega))
        refine gx_callo (a := 144) rfl rfl g109 rfl rfl rfl r11 rfl ?_
        show en_ex _ _ _ _ (49, [(0, gx_r 0), (1, .inl days), (2, .inl wh)], [.inl (LT (wlo L) 1 days)], t109, n, 0) _
        refine ex_go (S := (59, [(0, gx_r 0), (1, .inl days), (2, .inl wh)], [.inl (LT (wlo L) 1 days)], t109, n, 0)) rfl (fun _ => rfl) rfl ?_
        refine ex_ret (r := (some (.inl (LT (wlo L) 1 days)), t109, n, 0)) rfl (fun _ => rfl) ?_
        exact ⟨_, rfl, _, t109, rfl, fun z => absurd z (by first | decide | omega), fun _ => (if_pos (by first | decide | omega)).symm⟩
    · refine gx_1f (c := .ne) rfl (by first | decide | omega) hc8 rfl ?_
      refine ex_go (S := (20, [(0, gx_r 0), (1, .inl days), (2, .inl wh)], [.inl 4294967295], t0, n, 0)) rfl (fun _ => rfl) rfl ?_
      refine ex_ret (r := (some (.inl 4294967295), t0, n, 0)) rfl (fun _ => rfl) ?_
      exact ⟨_, rfl, _, t0, rfl, fun _ => rfl, fun z => absurd z (by first | decide | omega)⟩
theorem pc_lost257 (d n : Nat) {t0 : en_H} {days wh : Nat} {L : List Nat} (g0 : ai_HG ah_G t0) (hx : days < 4294967296) (hy : wh < 4294967296) (hR : CR t0) (kp : ai_hv t0 0 10 = some (gx_r 257)) (kb : ai_hv t0 299 2 = some (.inl L.length)) (hs : L.length ≤ 1000) (hc : cco t0 299 0 L) (hv : ∀ z, z ∈ L → ∃ fh, vo fh z) (hr : hrun 25 L 0 = some 1) : ∃ r, en_u (d + 4) 75 [gx_r 0, .inl days, .inl wh] t0 n = some r ∧ ∃ v t', r = (some (.inl v), t', n, 0) ∧ (¬ (1 ≤ days ∧ days ≤ 30 ∧ wh ≤ 1) → v = 4294967295) ∧ (1 ≤ days ∧ days ≤ 30 ∧ wh ≤ 1 → v = lostv (wlo L) days wh) := by
  have hW : ∀ d, wlo L d ≤ 99 := fun d => vcl_le
  refine en_u_ex (d := d + 3) rfl ?_
  show en_ex _ _ _ _ (0, [(0, gx_r 0), (1, .inl days), (2, .inl wh)], [], t0, n, 0) _
  refine ex_go (S := (1, [(0, gx_r 0), (1, .inl days), (2, .inl wh)], [.inl days], t0, n, 0)) rfl (fun _ => rfl) rfl ?_
  refine ex_go (S := (2, [(0, gx_r 0), (1, .inl days), (2, .inl wh)], [.inl 1, .inl days], t0, n, 0)) rfl (fun _ => rfl) rfl ?_
  refine ex_go (S := (4, [(0, gx_r 0), (1, .inl days), (2, .inl wh)], [.inl 30, .inl 1, .inl days], t0, n, 0)) rfl (fun _ => rfl) rfl ?_
  obtain ⟨_, r1, b2, rfl, b2b, q3⟩ := pz_isWithin (d + 2) n (t0 := t0) (x := days) (lo := 1) (hi := 30) (by first | decide | omega) (by first | decide | omega) (by first | decide | omega)
  refine ex_stat rfl rfl rfl rfl rfl r1 (Nat.le_refl _) rfl ?_
  show en_ex _ _ _ _ (7, [(0, gx_r 0), (1, .inl days), (2, .inl wh)], [.inl b2], t0, n, 0) _
  by_cases hc4 : b2 = 0
  · refine gx_1t (c := .eq) rfl (by first | decide | omega) hc4 rfl ?_
    refine ex_go (S := (20, [(0, gx_r 0), (1, .inl days), (2, .inl wh)], [.inl 4294967295], t0, n, 0)) rfl (fun _ => rfl) rfl ?_
    refine ex_ret (r := (some (.inl 4294967295), t0, n, 0)) rfl (fun _ => rfl) ?_
    exact ⟨_, rfl, _, t0, rfl, fun _ => rfl, fun z => absurd z (by first | decide | omega)⟩
  · refine gx_1f (c := .eq) rfl (by first | decide | omega) hc4 rfl ?_
    refine ex_go (S := (11, [(0, gx_r 0), (1, .inl days), (2, .inl wh)], [.inl wh], t0, n, 0)) rfl (fun _ => rfl) rfl ?_
    refine ex_go (S := (12, [(0, gx_r 0), (1, .inl days), (2, .inl wh)], [.inl 0, .inl wh], t0, n, 0)) rfl (fun _ => rfl) rfl ?_
    refine ex_go (S := (13, [(0, gx_r 0), (1, .inl days), (2, .inl wh)], [.inl 1, .inl 0, .inl wh], t0, n, 0)) rfl (fun _ => rfl) rfl ?_
    obtain ⟨_, r5, b6, rfl, b6b, q7⟩ := pz_isWithin (d + 2) n (t0 := t0) (x := wh) (lo := 0) (hi := 1) (by first | decide | omega) (by first | decide | omega) (by first | decide | omega)
    refine ex_stat rfl rfl rfl rfl rfl r5 (Nat.le_refl _) rfl ?_
    show en_ex _ _ _ _ (16, [(0, gx_r 0), (1, .inl days), (2, .inl wh)], [.inl b6], t0, n, 0) _
    by_cases hc8 : b6 ≠ 0
    · refine gx_1t (c := .ne) rfl (by first | decide | omega) hc8 rfl ?_
      refine ex_go (S := (22, [(0, gx_r 0), (1, .inl days), (2, .inl wh)], [gx_r 0], t0, n, 0)) rfl (fun _ => rfl) rfl ?_
      refine gxo_ref (a := 0) (c := 144) rfl g0 rfl rfl rfl rfl rfl ?_
      refine ex_go (S := (26, [(0, gx_r 0), (1, .inl days), (2, .inl wh)], [gx_r 0, gx_r 144], t0, n, 0)) rfl (fun _ => rfl) rfl ?_
      refine gxo_get (a := 0) rfl g0 rfl rfl kp rfl ?_
      refine gxo_ref (a := 257) (c := 299) rfl g0 rfl rfl rfl rfl rfl ?_
      refine ex_go (S := (33, [(0, gx_r 0), (1, .inl days), (2, .inl wh)], [.inl days, gx_r 299, gx_r 144], t0, n, 0)) rfl (fun _ => rfl) rfl ?_
      obtain ⟨_, r109, t109, rfl, g109, e109, hI, w, kw109, hw1, hw2⟩ := pc_looks299 d n (days := days) (L := L) g0 hR (by first | decide | omega) (by first | decide | omega) hW kb hs hc hv hr
      refine gx_callo (a := 144) rfl rfl g0 rfl rfl rfl r109 rfl ?_
      show en_ex _ _ _ _ (36, [(0, gx_r 0), (1, .inl days), (2, .inl wh)], [], t109, n, 0) _
      refine ex_go (S := (37, [(0, gx_r 0), (1, .inl days), (2, .inl wh)], [.inl wh], t109, n, 0)) rfl (fun _ => rfl) rfl ?_
      by_cases hc10 : wh ≠ 0
      · refine gx_1t (c := .ne) rfl (by first | decide | omega) hc10 rfl ?_
        refine ex_go (S := (53, [(0, gx_r 0), (1, .inl days), (2, .inl wh)], [gx_r 0], t109, n, 0)) rfl (fun _ => rfl) rfl ?_
        refine gxo_ref (a := 0) (c := 144) rfl g109 rfl rfl rfl rfl rfl ?_
        refine gxo_get (a := 144) rfl g109 rfl rfl kw109 rfl ?_
        refine ex_ret (r := (some (.inl w), t109, n, 0)) rfl (fun _ => rfl) ?_
        refine ⟨_, rfl, _, t109, rfl, fun z => absurd z (by first | decide | omega), fun _ => ?_⟩
        unfold lostv
        rw [if_neg (by first | decide | omega)]
        by_cases h1 : days = 1
        · rw [if_pos h1]; exact hw2 h1
        · rw [if_neg h1]; exact hw1 (by first | decide | omega)
      · refine gx_1f (c := .ne) rfl (by first | decide | omega) hc10 rfl ?_
        refine ex_go (S := (41, [(0, gx_r 0), (1, .inl days), (2, .inl wh)], [gx_r 0], t109, n, 0)) rfl (fun _ => rfl) rfl ?_
        refine gxo_ref (a := 0) (c := 144) rfl g109 rfl rfl rfl rfl rfl ?_
        refine ex_go (S := (45, [(0, gx_r 0), (1, .inl days), (2, .inl wh)], [.inl 1, gx_r 144], t109, n, 0)) rfl (fun _ => rfl) rfl ?_
        refine ex_go (S := (46, [(0, gx_r 0), (1, .inl days), (2, .inl wh)], [.inl days, .inl 1, gx_r 144], t109, n, 0)) rfl (fun _ => rfl) rfl ?_
        have hb9 := LT_b (W := wlo L) hW (f := 1) (l := days) (by first | decide | omega)
        obtain ⟨_, r11, rfl⟩ := pc_lookCost (d + 2) n (f := 1) (l := days) g109 (fun q hq => (e109 147 q (by first | decide | omega)).trans (hR q hq)) (by first | decide | omega) (by first | decide | omega) (hI 1 days (by first | decide | omega) (by first | decide | omega) (by first | decide | omega) (by first | decide | omega))
        refine gx_callo (a := 144) rfl rfl g109 rfl rfl rfl r11 rfl ?_
        show en_ex _ _ _ _ (49, [(0, gx_r 0), (1, .inl days), (2, .inl wh)], [.inl (LT (wlo L) 1 days)], t109, n, 0) _
        refine ex_go (S := (59, [(0, gx_r 0), (1, .inl days), (2, .inl wh)], [.inl (LT (wlo L) 1 days)], t109, n, 0)) rfl (fun _ => rfl) rfl ?_
        refine ex_ret (r := (some (.inl (LT (wlo L) 1 days)), t109, n, 0)) rfl (fun _ => rfl) ?_
        exact ⟨_, rfl, _, t109, rfl, fun z => absurd z (by first | decide | omega), fun _ => (if_pos (by first | decide | omega)).symm⟩
    · refine gx_1f (c := .ne) rfl (by first | decide | omega) hc8 rfl ?_
      refine ex_go (S := (20, [(0, gx_r 0), (1, .inl days), (2, .inl wh)], [.inl 4294967295], t0, n, 0)) rfl (fun _ => rfl) rfl ?_
      refine ex_ret (r := (some (.inl 4294967295), t0, n, 0)) rfl (fun _ => rfl) ?_
      exact ⟨_, rfl, _, t0, rfl, fun _ => rfl, fun z => absurd z (by first | decide | omega)⟩
end SLO
