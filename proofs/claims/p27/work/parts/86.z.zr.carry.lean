section SLP
/-! ### carry: what a load is worth in the mean, the best to be carried next -/
noncomputable def lowx (L : List Nat) (i : Nat) : Nat := vcl 10 ((vrun 0 i 0 L []).headD 0)
theorem lowx_le {L : List Nat} {i : Nat} : lowx L i ≤ 10 := vcl_le
/-- the chance of k steps from s on, in tenths each -/
noncomputable def lohp (H : Nat → Nat) (s : Nat) : Nat → Nat
  | 0 => 1
  | k + 1 => lohp H s k * H (s + k)
theorem lohp_le {H : Nat → Nat} (hH : ∀ i, H i ≤ 10) (s : Nat) : ∀ k, lohp H s k ≤ 10 ^ k
  | 0 => Nat.le_refl _
  | k + 1 => by
    show lohp H s k * H (s + k) ≤ 10 ^ (k + 1)
    rw [Nat.pow_succ]
    exact Nat.mul_le_mul (lohp_le hH s k) (hH _)
theorem lop10_le {k : Nat} (h : k ≤ 9) : 10 ^ k ≤ 1000000000 := Nat.le_trans (Nat.pow_le_pow_right (by decide) h) (by decide)
theorem lop10_pos (k : Nat) : 1 ≤ 10 ^ k := Nat.one_le_pow k 10 (by decide)
noncomputable def lomn (H : Nat → Nat) (s k v : Nat) : Nat := v * lohp H s k / 10 ^ k
theorem lomn_le {H : Nat → Nat} (hH : ∀ i, H i ≤ 10) {s k v : Nat} : lomn H s k v ≤ v := by
  unfold lomn
  have h1 := Nat.mul_le_mul_left v (lohp_le hH s k)
  have h2 := lop10_pos k
  have h3 := Nat.div_le_div_right (c := 10 ^ k) h1
  rw [Nat.mul_div_cancel v (by first | decide | omega)] at h3
  exact h3
/-- bits of sets of loads -/
noncomputable def lobt (s k : Nat) : Nat := (s >>> k) % 2
noncomputable def losb (s k : Nat) : Nat := s ||| (1 <<< k)
theorem lobt_le (s k : Nat) : lobt s k ≤ 1 := by unfold lobt; omega
noncomputable def lobt_ck : Bool := (List.range 64).all (fun s => (List.range 6).all (fun k => (nI (nI s >>> (nI k &&& 31)).toBitVec.toNat &&& nI 1).toBitVec.toNat == lobt s k))
theorem gx_lobt {s k : Nat} (h1 : s < 64) (h2 : k < 6) : (nI (nI s >>> (nI k &&& 31)).toBitVec.toNat &&& nI 1).toBitVec.toNat = lobt s k := by
  have h : lobt_ck = true := by decide +kernel
  exact eq_of_beq (List.all_eq_true.mp (List.all_eq_true.mp h s (List.mem_range.mpr h1)) k (List.mem_range.mpr h2))
noncomputable def losb_ck : Bool := (List.range 64).all (fun s => (List.range 6).all (fun k => (nI s ||| nI (nI 1 <<< (nI k &&& 31)).toBitVec.toNat).toBitVec.toNat == losb s k))
theorem gx_losb {s k : Nat} (h1 : s < 64) (h2 : k < 6) : (nI s ||| nI (nI 1 <<< (nI k &&& 31)).toBitVec.toNat).toBitVec.toNat = losb s k := by
  have h : losb_ck = true := by decide +kernel
  exact eq_of_beq (List.all_eq_true.mp (List.all_eq_true.mp h s (List.mem_range.mpr h1)) k (List.mem_range.mpr h2))
/-- all the loads of n -/
noncomputable def loal (n : Nat) : Nat := 2 ^ n - 1
noncomputable def loal_ck : Bool := (List.range 7).all (fun n => (nI (nI 1 <<< (nI n &&& 31)).toBitVec.toNat - nI 1).toBitVec.toNat == loal n && (List.range 64).all (fun s => (List.range 6).all (fun k => !(Nat.ble s (loal n) && Nat.blt k n && lobt s k == 0) || (Nat.blt s (losb s k) && Nat.ble (losb s k) (loal n)))))
theorem loal_all : loal_ck = true := by decide +kernel
theorem gx_loal {n : Nat} (h : n ≤ 6) : (nI (nI 1 <<< (nI n &&& 31)).toBitVec.toNat - nI 1).toBitVec.toNat = loal n := by
  have h1 := List.all_eq_true.mp loal_all n (List.mem_range.mpr (by first | decide | omega))
  rw [Bool.and_eq_true] at h1
  exact eq_of_beq h1.1
theorem losb_in {n s k : Nat} (h : n ≤ 6) (hs : s ≤ loal n) (hs6 : s < 64) (hk : k < n) (hb : lobt s k = 0) : s < losb s k ∧ losb s k ≤ loal n := by
  have h1 := List.all_eq_true.mp loal_all n (List.mem_range.mpr (by first | decide | omega))
  rw [Bool.and_eq_true] at h1
  have h2 := List.all_eq_true.mp (List.all_eq_true.mp h1.2 s (List.mem_range.mpr hs6)) k (List.mem_range.mpr (by first | decide | omega))
  rw [Nat.ble_eq_true_of_le hs, show Nat.blt k n = true from Nat.ble_eq_true_of_le hk, hb] at h2
  have h2 : (Nat.blt s (losb s k) && Nat.ble (losb s k) (loal n)) = true := h2
  rw [Bool.and_eq_true] at h2
  exact ⟨Nat.le_of_ble_eq_true h2.1, Nat.le_of_ble_eq_true h2.2⟩
theorem loal_lt {n : Nat} (h : n ≤ 6) : loal n < 64 := by
  unfold loal
  have := Nat.pow_le_pow_right (n := 2) (by decide) h
  omega
/-- how many steps the loads of a set took -/
noncomputable def lostp (s : Nat) (tk : Nat → Nat) : Nat → Nat
  | 0 => 0
  | k + 1 => lostp s tk k + (if lobt s k = 1 then tk k else 0)
theorem lostp_le {s : Nat} {tk : Nat → Nat} : ∀ n, (∀ k, k < n → tk k ≤ 9) → lostp s tk n ≤ 9 * n
  | 0, _ => Nat.le_refl _
  | k + 1, h => by
    have h1 := lostp_le (s := s) (tk := tk) k (fun j hj => h j (by first | decide | omega))
    have h2 := h k (by first | decide | omega)
    show lostp s tk k + (if lobt s k = 1 then tk k else 0) ≤ 9 * (k + 1)
    split <;> omega
theorem lostp_one {s : Nat} {tk : Nat → Nat} {x : Nat} : ∀ n, (∀ k, k < n → tk k ≤ 9) → x < n → lobt s x = 0 → lostp s tk n + tk x ≤ 9 * n
  | 0, _, h, _ => absurd h (Nat.not_lt_zero x)
  | k + 1, h, hx, hb => by
    show lostp s tk k + (if lobt s k = 1 then tk k else 0) + tk x ≤ 9 * (k + 1)
    by_cases e : x = k
    · subst e
      have h1 := lostp_le (s := s) (tk := tk) x (fun j hj => h j (by first | decide | omega))
      have h2 := h x (by first | decide | omega)
      rw [if_neg (by first | decide | omega)]
      omega
    · have h1 := lostp_one k (fun j hj => h j (by first | decide | omega)) (by first | decide | omega) hb
      have h2 := h k (by first | decide | omega)
      split <;> omega
/-- the first of the best: none is 4294967295 -/
noncomputable def lowb (g : Nat → Nat) (s : Nat) : Nat → Nat
  | 0 => 4294967295
  | k + 1 => if lobt s k = 0 ∧ (lowb g s k = 4294967295 ∨ g (lowb g s k) < g k) then k else lowb g s k
theorem lowb_in (g : Nat → Nat) (s : Nat) : ∀ k, lowb g s k = 4294967295 ∨ (lowb g s k < k ∧ lobt s (lowb g s k) = 0)
  | 0 => Or.inl rfl
  | k + 1 => by
    by_cases h : lobt s k = 0 ∧ (lowb g s k = 4294967295 ∨ g (lowb g s k) < g k)
    · have e : lowb g s (k + 1) = k := if_pos h
      rw [e]
      exact Or.inr ⟨by omega, h.1⟩
    · have e : lowb g s (k + 1) = lowb g s k := if_neg h
      rw [e]
      rcases lowb_in g s k with h1 | ⟨h1, h2⟩
      · exact Or.inl h1
      · exact Or.inr ⟨by omega, h2⟩
theorem lowb_congr {g g' : Nat → Nat} {s : Nat} : ∀ {n : Nat}, (∀ k, k < n → lobt s k = 0 → g k = g' k) → lowb g s n = lowb g' s n
  | 0, _ => rfl
  | k + 1, h => by
    have h1 := lowb_congr (g := g) (g' := g') (s := s) (n := k) (fun j a b => h j (by first | decide | omega) b)
    have h2 := lowb_in g' s k
    show (if lobt s k = 0 ∧ (lowb g s k = 4294967295 ∨ g (lowb g s k) < g k) then k else lowb g s k) = (if lobt s k = 0 ∧ (lowb g' s k = 4294967295 ∨ g' (lowb g' s k) < g' k) then k else lowb g' s k)
    rw [h1]
    by_cases c : lobt s k = 0
    · rw [h k (by first | decide | omega) c]
      rcases h2 with e | ⟨e1, e2⟩
      · rw [e]
        rw [if_pos ⟨c, Or.inl rfl⟩, if_pos ⟨c, Or.inl rfl⟩]
      · rw [h _ (by first | decide | omega) e2]
    · rw [if_neg (fun z => c z.1), if_neg (fun z => c z.1)]
/-- the worth of the load k when the set s is out, T: what the greater sets are worth -/
noncomputable def locv (H wt tk : Nat → Nat) (n : Nat) (T : Nat → Nat) (s k : Nat) : Nat := lomn H (lostp s tk n) (tk k) (1000 * wt k + T (losb s k))
noncomputable def locT (H wt tk : Nat → Nat) (n : Nat) : Nat → Nat → Nat
  | 0 => fun _ => 0
  | j + 1 => fun s => if loal n - s < j then locT H wt tk n j s else if s = loal n then 0 else locv H wt tk n (locT H wt tk n j) s (lowb (locv H wt tk n (locT H wt tk n j) s) s n)
noncomputable def loCT (H wt tk : Nat → Nat) (n s : Nat) : Nat := locT H wt tk n (loal n - s + 1) s
theorem locT_st {H wt tk : Nat → Nat} {n s : Nat} : ∀ j, loal n - s < j → locT H wt tk n j s = loCT H wt tk n s
  | 0, h => absurd h (Nat.not_lt_zero _)
  | j + 1, h => by
    by_cases c : loal n - s < j
    · have e : locT H wt tk n (j + 1) s = locT H wt tk n j s := if_pos c
      rw [e]
      exact locT_st j c
    · unfold loCT
      rw [show loal n - s = j by omega]
theorem loCT_al {H wt tk : Nat → Nat} {n : Nat} : loCT H wt tk n (loal n) = 0 := by
  unfold loCT
  rw [show loal n - loal n + 1 = 0 + 1 by omega]
  show (if loal n - loal n < 0 then locT H wt tk n 0 (loal n) else if loal n = loal n then 0 else locv H wt tk n (locT H wt tk n 0) (loal n) (lowb (locv H wt tk n (locT H wt tk n 0) (loal n)) (loal n) n)) = 0
  rw [if_neg (Nat.not_lt_zero _), if_pos rfl]
noncomputable def lofr_ck : Bool := (List.range 7).all (fun n => (List.range 64).all (fun s => !(Nat.blt s (loal n)) || (List.range n).any (fun k => lobt s k == 0)))
theorem lofr_ex {n s : Nat} (h : n ≤ 6) (hs : s < loal n) : ∃ k, k < n ∧ lobt s k = 0 := by
  have h0 : lofr_ck = true := by decide +kernel
  have hl := loal_lt h
  have h1 := List.all_eq_true.mp (List.all_eq_true.mp h0 n (List.mem_range.mpr (by first | decide | omega))) s (List.mem_range.mpr (by first | decide | omega))
  rw [show Nat.blt s (loal n) = true from Nat.ble_eq_true_of_le hs] at h1
  obtain ⟨k, hk, hb⟩ := List.any_eq_true.mp (show (List.range n).any (fun k => lobt s k == 0) = true from h1)
  exact ⟨k, List.mem_range.mp hk, eq_of_beq hb⟩
theorem lowb_some {g : Nat → Nat} {s x : Nat} : ∀ n, n ≤ 6 → x < n → lobt s x = 0 → lowb g s n < n ∧ lobt s (lowb g s n) = 0
  | 0, _, h, _ => absurd h (Nat.not_lt_zero x)
  | k + 1, hn, hx, hb => by
    by_cases h : lobt s k = 0 ∧ (lowb g s k = 4294967295 ∨ g (lowb g s k) < g k)
    · have e : lowb g s (k + 1) = k := if_pos h
      rw [e]
      exact ⟨by omega, h.1⟩
    · have e : lowb g s (k + 1) = lowb g s k := if_neg h
      rw [e]
      by_cases c : x = k
      · subst c
        rcases lowb_in g s x with h1 | ⟨h1, h2⟩
        · exact absurd ⟨hb, Or.inl h1⟩ h
        · exact ⟨by omega, h2⟩
      · have h1 := lowb_some (g := g) k (by first | decide | omega) (by first | decide | omega) hb
        exact ⟨by omega, h1.2⟩
theorem loCT_step {H wt tk : Nat → Nat} {n s : Nat} (hn : n ≤ 6) (h : s < loal n) : loCT H wt tk n s = locv H wt tk n (loCT H wt tk n) s (lowb (locv H wt tk n (loCT H wt tk n) s) s n) := by
  obtain ⟨x, hx, hb⟩ := lofr_ex hn h
  have hl := loal_lt hn
  have e0 : loCT H wt tk n s = locT H wt tk n (loal n - s + 1) s := rfl
  have e1 : locT H wt tk n (loal n - s + 1) s = locv H wt tk n (locT H wt tk n (loal n - s)) s (lowb (locv H wt tk n (locT H wt tk n (loal n - s)) s) s n) := by
    show (if loal n - s < loal n - s then _ else if s = loal n then 0 else _) = _
    rw [if_neg (Nat.lt_irrefl _), if_neg (by first | decide | omega)]
  have e2 : ∀ k, k < n → lobt s k = 0 → locv H wt tk n (locT H wt tk n (loal n - s)) s k = locv H wt tk n (loCT H wt tk n) s k := fun k hk hk2 => by
    have hs := losb_in hn (by first | decide | omega) (by first | decide | omega) hk hk2
    unfold locv
    rw [locT_st (s := losb s k) (loal n - s) (by first | decide | omega)]
  have e3 := lowb_some (g := locv H wt tk n (loCT H wt tk n) s) n hn hx hb
  rw [e0, e1, lowb_congr e2, e2 _ e3.1 e3.2]
theorem loCT_le {H wt tk : Nat → Nat} {n : Nat} (hn : n ≤ 6) (hH : ∀ i, H i ≤ 10) (hw : ∀ k, k < n → wt k ≤ 999) : ∀ j s, loal n - s ≤ j → s ≤ loal n → loCT H wt tk n s ≤ 999000 * (loal n - s)
  | 0, s, h, h2 => by
    have e : s = loal n := by omega
    rw [e, loCT_al]
    exact Nat.zero_le _
  | j + 1, s, h, h2 => by
    by_cases e : s = loal n
    · rw [e, loCT_al]; exact Nat.zero_le _
    · have hl := loal_lt hn
      obtain ⟨x, hx, hb⟩ := lofr_ex hn (show s < loal n by omega)
      have e3 := lowb_some (g := locv H wt tk n (loCT H wt tk n) s) n hn hx hb
      rw [loCT_step hn (by first | decide | omega)]
      generalize lowb (locv H wt tk n (loCT H wt tk n) s) s n = k at e3
      have hs := losb_in hn h2 (by first | decide | omega) e3.1 e3.2
      have h3 := loCT_le (tk := tk) hn hH hw j (losb s k) (by first | decide | omega) hs.2
      have h4 := hw k e3.1
      have h5 : locv H wt tk n (loCT H wt tk n) s k ≤ 1000 * wt k + loCT H wt tk n (losb s k) := lomn_le hH
      omega
theorem loCT_b {H wt tk : Nat → Nat} {n s : Nat} (hn : n ≤ 6) (hH : ∀ i, H i ≤ 10) (hw : ∀ k, k < n → wt k ≤ 999) (h : s ≤ loal n) : loCT H wt tk n s ≤ 62937000 := by
  have h1 := loCT_le (tk := tk) hn hH hw (loal n - s) s (Nat.le_refl _) h
  have h2 := loal_lt hn
  omega
theorem pe_cof_a {fn : en_F} {n : Nat} {tb : en_H} {nl set one : Nat} {wt tk : Nat → Nat} {Q : en_O → Prop} (gb : ai_HG ah_G tb) (kn : ai_hv tb 389 8 = some (.inl nl)) (hn : nl ≤ 6) (kw : ∀ k, k < nl → ai_hv tb 389 (140 + 2 * k) = some (.inl (wt k))) (hw : ∀ k, k < nl → wt k ≤ 999) (kt : ∀ k, k < nl → ai_hv tb 389 (140 + 2 * k + 1) = some (.inl (tk k))) (ht : ∀ k, k < nl → 0 ≤ tk k ∧ tk k ≤ 9) (hset : set < 64) (hQ : ∀ cl, en_ld cl 0 = some (gx_r 383) → en_ld cl 1 = some (.inl set) → en_ld cl 2 = some (.inl one) → en_ld cl 3 = some (.inl (lostp set tk nl)) → en_ex none fn (en_code 161) (fun _ => false) (55, cl, [], tb, n, 0) Q) : ∀ j k cl, k + j = nl → en_ld cl 0 = some (gx_r 383) → en_ld cl 1 = some (.inl set) → en_ld cl 2 = some (.inl one) → en_ld cl 3 = some (.inl (lostp set tk k)) → en_ld cl 4 = some (.inl k) → en_ex none fn (en_code 161) (fun _ => false) (5, cl, [], tb, n, 0) Q := by
  intro j
  induction j with
  | zero =>
    intro k cl hj h0 h1 h2 h3 h4
    have hst := lostp_le (s := set) (tk := tk) k (fun q hq => (ht q (by first | decide | omega)).2)
    refine gx_ld (i := 4) (d := 0) (v := .inl k) rfl (fun _ => rfl) h4 rfl rfl ?_
    refine gx_ld (i := 0) (d := 2) (v := gx_r 383) rfl (fun _ => rfl) h0 rfl rfl ?_
    refine gx_ref (c := 389) rfl gb rfl rfl rfl rfl ?_
    refine ex_go (S := (13, cl, [.inl 8, gx_r 389, .inl k], tb, n, 0)) rfl (fun _ => rfl) rfl ?_
    refine gx_ag (v := .inl nl) (cb := fun c => Nat.beq c 0) rfl (fun _ => rfl) gb rfl rfl kn (by first | decide | omega) rfl ?_
    refine gx_2t (c := .ge) rfl (by first | decide | omega) (by first | decide | omega) (show nl ≤ k from by omega) rfl ?_
    have hk : k = nl := by omega
    rw [hk] at h3
    exact hQ _ h0 h1 h2 h3
  | succ j ih =>
    intro k cl hj h0 h1 h2 h3 h4
    have hst := lostp_le (s := set) (tk := tk) k (fun q hq => (ht q (by first | decide | omega)).2)
    refine gx_ld (i := 4) (d := 0) (v := .inl k) rfl (fun _ => rfl) h4 rfl rfl ?_
    refine gx_ld (i := 0) (d := 2) (v := gx_r 383) rfl (fun _ => rfl) h0 rfl rfl ?_
    refine gx_ref (c := 389) rfl gb rfl rfl rfl rfl ?_
    refine ex_go (S := (13, cl, [.inl 8, gx_r 389, .inl k], tb, n, 0)) rfl (fun _ => rfl) rfl ?_
    refine gx_ag (v := .inl nl) (cb := fun c => Nat.beq c 0) rfl (fun _ => rfl) gb rfl rfl kn (by first | decide | omega) rfl ?_
    refine gx_2f (c := .ge) rfl (by first | decide | omega) (by first | decide | omega) (show ¬ (nl ≤ k) from by omega) rfl ?_
    refine gx_ld (i := 3) (d := 0) (v := .inl (lostp set tk k)) rfl (fun _ => rfl) h3 rfl rfl ?_
    refine gx_ld (i := 1) (d := 0) (v := .inl set) rfl (fun _ => rfl) h1 rfl rfl ?_
    refine gx_ld (i := 4) (d := 0) (v := .inl k) rfl (fun _ => rfl) h4 rfl rfl ?_
    refine ex_go (S := (22, cl, [.inl ((nI set >>> (nI k &&& 31)).toBitVec.toNat), .inl (lostp set tk k)], tb, n, 0)) rfl (fun _ => rfl) rfl ?_
    refine ex_go (S := (23, cl, [.inl 1, .inl ((nI set >>> (nI k &&& 31)).toBitVec.toNat), .inl (lostp set tk k)], tb, n, 0)) rfl (fun _ => rfl) rfl ?_
    refine ex_go (S := (24, cl, [.inl ((nI ((nI set >>> (nI k &&& 31)).toBitVec.toNat) &&& nI 1).toBitVec.toNat), .inl (lostp set tk k)], tb, n, 0)) rfl (fun _ => rfl) rfl ?_
    rw [gx_lobt (by first | decide | omega) (by first | decide | omega)]
    have hbt := lobt_le set k
    refine ex_go (S := (25, cl, [.inl 1, .inl (lobt set k), .inl (lostp set tk k)], tb, n, 0)) rfl (fun _ => rfl) rfl ?_
    by_cases hc1 : lobt set k ≠ 1
    · refine gx_2t (c := .ne) rfl (by first | decide | omega) (by first | decide | omega) hc1 rfl ?_
      refine ex_go (S := (47, cl, [.inl 0, .inl (lostp set tk k)], tb, n, 0)) rfl (fun _ => rfl) rfl ?_
      refine ex_iadd rfl (by first | decide | omega) rfl ?_
      refine gx_sto (i := 3) (d := 0) rfl (fun _ => rfl) rfl rfl (fun l2 hl2 ml2 => ?_)
      have l2_0 : en_ld l2 0 = some (gx_r 383) := ml2 0 _ h0 rfl
      have l2_1 : en_ld l2 1 = some (.inl set) := ml2 1 _ h1 rfl
      have l2_2 : en_ld l2 2 = some (.inl one) := ml2 2 _ h2 rfl
      have l2_4 : en_ld l2 4 = some (.inl k) := ml2 4 _ h4 rfl
      refine gx_incS (i := 4) (a := k) (x := 1) rfl (fun _ => rfl) l2_4 (by first | decide | omega) rfl (fun l3 hl3 ml3 => ?_)
      have l3_0 : en_ld l3 0 = some (gx_r 383) := ml3 0 _ l2_0 rfl
      have l3_1 : en_ld l3 1 = some (.inl set) := ml3 1 _ l2_1 rfl
      have l3_2 : en_ld l3 2 = some (.inl one) := ml3 2 _ l2_2 rfl
      have l3_3 : en_ld l3 3 = some (.inl ((lostp set tk k) + 0)) := ml3 3 _ hl2 rfl
      refine ex_go (S := (5, l3, [], tb, n, 0)) rfl (fun _ => rfl) rfl ?_
      exact ih (k + 1) _ (by first | decide | omega) l3_0 l3_1 l3_2 (by show _ = some (Sum.inl (lostp set tk k + (if lobt set k = 1 then tk k else 0))); rw [if_neg (by first | decide | omega)]; exact l3_3) hl3
    · refine gx_2f (c := .ne) rfl (by first | decide | omega) (by first | decide | omega) hc1 rfl ?_
      refine gx_ld (i := 0) (d := 2) (v := gx_r 383) rfl (fun _ => rfl) h0 rfl rfl ?_
      refine gx_ref (c := 389) rfl gb rfl rfl rfl rfl ?_
      refine ex_go (S := (35, cl, [.inl 140, gx_r 389, .inl (lostp set tk k)], tb, n, 0)) rfl (fun _ => rfl) rfl ?_
      refine ex_go (S := (36, cl, [.inl 2, .inl 140, gx_r 389, .inl (lostp set tk k)], tb, n, 0)) rfl (fun _ => rfl) rfl ?_
      refine gx_ld (i := 4) (d := 0) (v := .inl k) rfl (fun _ => rfl) h4 rfl rfl ?_
      refine gx_imul rfl (by first | decide | omega) rfl ?_
      refine ex_iadd rfl (by first | decide | omega) rfl ?_
      refine ex_go (S := (41, cl, [.inl 1, .inl (140 + (2 * k)), gx_r 389, .inl (lostp set tk k)], tb, n, 0)) rfl (fun _ => rfl) rfl ?_
      refine ex_iadd rfl (by first | decide | omega) rfl ?_
      have hk1 := ht k (by first | decide | omega)
      refine gx_ag (v := .inl (tk k)) (cb := fun c => Nat.beq c 0) rfl (fun _ => rfl) gb rfl rfl (kt k (by first | decide | omega)) (by first | decide | omega) rfl ?_
      refine ex_go (S := (47, cl, [.inl (tk k), .inl (lostp set tk k)], tb, n, 0)) rfl (fun _ => rfl) rfl ?_
      refine ex_iadd rfl (by first | decide | omega) rfl ?_
      refine gx_sto (i := 3) (d := 0) rfl (fun _ => rfl) rfl rfl (fun l4 hl4 ml4 => ?_)
      have l4_0 : en_ld l4 0 = some (gx_r 383) := ml4 0 _ h0 rfl
      have l4_1 : en_ld l4 1 = some (.inl set) := ml4 1 _ h1 rfl
      have l4_2 : en_ld l4 2 = some (.inl one) := ml4 2 _ h2 rfl
      have l4_4 : en_ld l4 4 = some (.inl k) := ml4 4 _ h4 rfl
      refine gx_incS (i := 4) (a := k) (x := 1) rfl (fun _ => rfl) l4_4 (by first | decide | omega) rfl (fun l5 hl5 ml5 => ?_)
      have l5_0 : en_ld l5 0 = some (gx_r 383) := ml5 0 _ l4_0 rfl
      have l5_1 : en_ld l5 1 = some (.inl set) := ml5 1 _ l4_1 rfl
      have l5_2 : en_ld l5 2 = some (.inl one) := ml5 2 _ l4_2 rfl
      have l5_3 : en_ld l5 3 = some (.inl ((lostp set tk k) + (tk k))) := ml5 3 _ hl4 rfl
      refine ex_go (S := (5, l5, [], tb, n, 0)) rfl (fun _ => rfl) rfl ?_
      exact ih (k + 1) _ (by first | decide | omega) l5_0 l5_1 l5_2 (by show _ = some (Sum.inl (lostp set tk k + (if lobt set k = 1 then tk k else 0))); rw [if_pos (by first | decide | omega)]; exact l5_3) hl5
theorem pe_cof_b (d n : Nat) {tb : en_H} {nl set one v0 : Nat} {wt tk : Nat → Nat} {L : List Nat} {Q : en_O → Prop} (kn : ai_hv tb 389 8 = some (.inl nl)) (hn : nl ≤ 6) (kw : ∀ k, k < nl → ai_hv tb 389 (140 + 2 * k) = some (.inl (wt k))) (hw : ∀ k, k < nl → wt k ≤ 999) (kt : ∀ k, k < nl → ai_hv tb 389 (140 + 2 * k + 1) = some (.inl (tk k))) (ht : ∀ k, k < nl → 0 ≤ tk k ∧ tk k ≤ 9) (hone : one < nl) (hv0 : v0 ≤ 63936000) (hL : RLL tb 2 2 L) (hQ : ∀ cl t1, ai_HG ah_G t1 → (∀ c i, ¬ ((c = 397 ∧ i = 1) ∨ c = 398) → ai_hv t1 c i = ai_hv tb c i) → en_ld cl 4 = some (.inr (.inl (v0 * lohp (fun i => 10 - lowx L i) (lostp set tk nl) (tk one)))) → en_ld cl 6 = some (.inr (.inl (10 ^ tk one))) → en_ex none (en_u (d + 3)) (en_code 161) (fun _ => false) (152, cl, [], t1, n, 0) Q) : ∀ j k cl t0, k + j = tk one → ai_HG ah_G t0 → (∀ c i, ¬ ((c = 397 ∧ i = 1) ∨ c = 398) → ai_hv t0 c i = ai_hv tb c i) → en_ld cl 0 = some (gx_r 383) → en_ld cl 1 = some (.inl set) → en_ld cl 2 = some (.inl one) → en_ld cl 3 = some (.inl (lostp set tk nl)) → en_ld cl 4 = some (.inr (.inl (v0 * lohp (fun i => 10 - lowx L i) (lostp set tk nl) k))) → en_ld cl 6 = some (.inr (.inl (10 ^ k))) → en_ld cl 8 = some (.inl k) → en_ex none (en_u (d + 3)) (en_code 161) (fun _ => false) (92, cl, [], t0, n, 0) Q := by
  have hH : ∀ i, (fun i => 10 - lowx L i) i ≤ 10 := fun i => Nat.sub_le _ _
  have hst := lostp_le (s := set) (tk := tk) nl (fun q hq => (ht q hq).2)
  have ht1 := ht one hone
  intro j
  induction j with
  | zero =>
    intro k cl t0 hj g0 e0 h0 h1 h2 h3 h4 h6 h8
    have hp1 := lohp_le hH (lostp set tk nl) k
    have hp2 := lop10_le (show k ≤ 9 by omega)
    have hp3 : v0 * lohp (fun i => 10 - lowx L i) (lostp set tk nl) k ≤ 63936000 * 1000000000 := Nat.mul_le_mul hv0 (Nat.le_trans hp1 hp2)
    refine gx_ld (i := 8) (d := 0) (v := .inl k) rfl (fun _ => rfl) h8 rfl rfl ?_
    refine gx_ld (i := 0) (d := 2) (v := gx_r 383) rfl (fun _ => rfl) h0 rfl rfl ?_
    refine gx_ref (c := 389) rfl g0 rfl rfl rfl rfl ?_
    refine ex_go (S := (101, cl, [.inl 140, gx_r 389, .inl k], t0, n, 0)) rfl (fun _ => rfl) rfl ?_
    refine ex_go (S := (102, cl, [.inl 2, .inl 140, gx_r 389, .inl k], t0, n, 0)) rfl (fun _ => rfl) rfl ?_
    refine gx_ld (i := 2) (d := 0) (v := .inl one) rfl (fun _ => rfl) h2 rfl rfl ?_
    refine gx_imul rfl (by first | decide | omega) rfl ?_
    refine ex_iadd rfl (by first | decide | omega) rfl ?_
    refine ex_go (S := (106, cl, [.inl 1, .inl (140 + (2 * one)), gx_r 389, .inl k], t0, n, 0)) rfl (fun _ => rfl) rfl ?_
    refine ex_iadd rfl (by first | decide | omega) rfl ?_
    refine gx_ag (v := .inl (tk one)) (cb := fun c => Nat.beq c 0) rfl (fun _ => rfl) g0 rfl rfl (((e0 389 (140 + 2 * one + 1) (by first | decide | omega)).trans (kt one hone))) (by first | decide | omega) rfl ?_
    refine gx_2t (c := .ge) rfl (by first | decide | omega) (by first | decide | omega) (show tk one ≤ k from by omega) rfl ?_
    have hk : k = tk one := by omega
    rw [hk] at h4 h6
    exact hQ _ t0 g0 e0 h4 h6
  | succ j ih =>
    intro k cl t0 hj g0 e0 h0 h1 h2 h3 h4 h6 h8
    have hp1 := lohp_le hH (lostp set tk nl) k
    have hp2 := lop10_le (show k ≤ 9 by omega)
    have hp3 : v0 * lohp (fun i => 10 - lowx L i) (lostp set tk nl) k ≤ 63936000 * 1000000000 := Nat.mul_le_mul hv0 (Nat.le_trans hp1 hp2)
    refine gx_ld (i := 8) (d := 0) (v := .inl k) rfl (fun _ => rfl) h8 rfl rfl ?_
    refine gx_ld (i := 0) (d := 2) (v := gx_r 383) rfl (fun _ => rfl) h0 rfl rfl ?_
    refine gx_ref (c := 389) rfl g0 rfl rfl rfl rfl ?_
    refine ex_go (S := (101, cl, [.inl 140, gx_r 389, .inl k], t0, n, 0)) rfl (fun _ => rfl) rfl ?_
    refine ex_go (S := (102, cl, [.inl 2, .inl 140, gx_r 389, .inl k], t0, n, 0)) rfl (fun _ => rfl) rfl ?_
    refine gx_ld (i := 2) (d := 0) (v := .inl one) rfl (fun _ => rfl) h2 rfl rfl ?_
    refine gx_imul rfl (by first | decide | omega) rfl ?_
    refine ex_iadd rfl (by first | decide | omega) rfl ?_
    refine ex_go (S := (106, cl, [.inl 1, .inl (140 + (2 * one)), gx_r 389, .inl k], t0, n, 0)) rfl (fun _ => rfl) rfl ?_
    refine ex_iadd rfl (by first | decide | omega) rfl ?_
    refine gx_ag (v := .inl (tk one)) (cb := fun c => Nat.beq c 0) rfl (fun _ => rfl) g0 rfl rfl (((e0 389 (140 + 2 * one + 1) (by first | decide | omega)).trans (kt one hone))) (by first | decide | omega) rfl ?_
    refine gx_2f (c := .ge) rfl (by first | decide | omega) (by first | decide | omega) (show ¬ (tk one ≤ k) from by omega) rfl ?_
    refine gx_ld (i := 0) (d := 2) (v := gx_r 383) rfl (fun _ => rfl) h0 rfl rfl ?_
    refine gx_ref (c := 397) rfl g0 rfl rfl rfl rfl ?_
    refine ex_go (S := (116, cl, [.inl 1, gx_r 397], t0, n, 0)) rfl (fun _ => rfl) rfl ?_
    refine gx_ld (i := 3) (d := 0) (v := .inl (lostp set tk nl)) rfl (fun _ => rfl) h3 rfl rfl ?_
    refine gx_ld (i := 8) (d := 0) (v := .inl k) rfl (fun _ => rfl) h8 rfl rfl ?_
    refine ex_iadd rfl (by first | decide | omega) rfl ?_
    refine gx_ap rfl (fun _ => rfl) g0 rfl rfl rfl (show 1 < 4 from by omega) rfl (gx_full (by first | decide | omega)) rfl (fun t101 g101 k101 e101 => ?_)
    have k2 : ai_hv t101 389 ((140 + (2 * one)) + 1) = some (.inl (tk one)) := (e101 389 ((140 + (2 * one)) + 1) (by first | decide | omega)).trans (((e0 389 (140 + 2 * one + 1) (by first | decide | omega)).trans (kt one hone)))
    have hp4 : v0 * lohp (fun i => 10 - lowx L i) (lostp set tk nl) k * (10 - lowx L (lostp set tk nl + k)) ≤ 63936000 * 1000000000 * 10 := Nat.mul_le_mul hp3 (Nat.sub_le _ _)
    refine gx_ld (i := 4) (d := 1) (v := .inr (.inl (v0 * lohp (fun i => 10 - lowx L i) (lostp set tk nl) k))) rfl (fun _ => rfl) h4 rfl rfl ?_
    refine ex_go (S := (125, cl, [.inl 10, .inr (.inl (v0 * lohp (fun i => 10 - lowx L i) (lostp set tk nl) k))], t101, n, 0)) rfl (fun _ => rfl) rfl ?_
    refine gx_ld (i := 0) (d := 2) (v := gx_r 383) rfl (fun _ => rfl) h0 rfl rfl ?_
    refine ex_go (S := (127, cl, [.inl 2, gx_r 383, .inl 10, .inr (.inl (v0 * lohp (fun i => 10 - lowx L i) (lostp set tk nl) k))], t101, n, 0)) rfl (fun _ => rfl) rfl ?_
    refine ex_go (S := (129, cl, [.inl 10, .inl 2, gx_r 383, .inl 10, .inr (.inl (v0 * lohp (fun i => 10 - lowx L i) (lostp set tk nl) k))], t101, n, 0)) rfl (fun _ => rfl) rfl ?_
    refine ex_go (S := (130, cl, [.inl 1, .inl 10, .inl 2, gx_r 383, .inl 10, .inr (.inl (v0 * lohp (fun i => 10 - lowx L i) (lostp set tk nl) k))], t101, n, 0)) rfl (fun _ => rfl) rfl ?_
    obtain ⟨_, r103, v103, t103, rfl, hv103, g103, e103⟩ := pe_lawOf d n (lw := 2) (fh := 2) (mo := 10) (ot := 1) (me := 0) (ti := lostp set tk nl + k) (ou := 0) (L := L) g101 (by decide) (by decide) (by decide) (Or.inr (Or.inr rfl)) ⟨by decide, by omega, by decide, k101, fun z => absurd z (by decide)⟩ (RLL_keep hL ((e101 389 (9 + 2) (by first | decide | omega)).trans (e0 389 (9 + 2) (by first | decide | omega))) (fun c i h => (e101 c i (by first | decide | omega)).trans (e0 c i (by first | decide | omega)))) (fun z => by rw [z]; exact cdf_v1 (by decide))
    have hw9 : vcl 10 v103 = lowx L (lostp set tk nl + k) := by unfold lowx; rw [hv103]; rfl
    rw [hw9] at r103
    have hx9 := lowx_le (L := L) (i := lostp set tk nl + k)
    refine gx_call1 rfl rfl g101 rfl rfl r103 rfl ?_
    have k4 : ai_hv t103 389 ((140 + (2 * one)) + 1) = some (.inl (tk one)) := (e103 389 ((140 + (2 * one)) + 1) (by first | decide | omega)).trans k2
    have k5 : ai_hv t103 397 1 = some (.inl ((lostp set tk nl) + k)) := (e103 397 1 (by first | decide | omega)).trans k101
    show en_ex _ _ _ _ (133, cl, [.inl (lowx L (lostp set tk nl + k)), .inl 10, .inr (.inl (v0 * lohp (fun i => 10 - lowx L i) (lostp set tk nl) k))], t103, n, 0) _
    refine gx_isub rfl (by first | decide | omega) (by first | decide | omega) rfl ?_
    refine ex_go (S := (135, cl, [.inr (.inl ((nI (10 - (lowx L (lostp set tk nl + k)))).toInt64.toBitVec.toNat)), .inr (.inl (v0 * lohp (fun i => 10 - lowx L i) (lostp set tk nl) k))], t103, n, 0)) rfl (fun _ => rfl) rfl ?_
    rw [sp_i2l (show 10 - (lowx L (lostp set tk nl + k)) < 2147483648 from by omega)]
    refine ex_go (S := (136, cl, [.inr (.inl ((lN (v0 * lohp (fun i => 10 - lowx L i) (lostp set tk nl) k) * lN (10 - (lowx L (lostp set tk nl + k)))).toBitVec.toNat))], t103, n, 0)) rfl (fun _ => rfl) rfl ?_
    rw [sp_lmul (show (v0 * lohp (fun i => 10 - lowx L i) (lostp set tk nl) k) * (10 - (lowx L (lostp set tk nl + k))) < 18446744073709551616 from by omega)]
    refine gx_sto (i := 4) (d := 1) rfl (fun _ => rfl) rfl rfl (fun l6 hl6 ml6 => ?_)
    have l6_0 : en_ld l6 0 = some (gx_r 383) := ml6 0 _ h0 rfl
    have l6_1 : en_ld l6 1 = some (.inl set) := ml6 1 _ h1 rfl
    have l6_2 : en_ld l6 2 = some (.inl one) := ml6 2 _ h2 rfl
    have l6_3 : en_ld l6 3 = some (.inl (lostp set tk nl)) := ml6 3 _ h3 rfl
    have l6_6 : en_ld l6 6 = some (.inr (.inl (10 ^ k))) := ml6 6 _ h6 rfl
    have l6_8 : en_ld l6 8 = some (.inl k) := ml6 8 _ h8 rfl
    refine gx_ld (i := 6) (d := 1) (v := .inr (.inl (10 ^ k))) rfl (fun _ => rfl) l6_6 rfl rfl ?_
    refine ex_go (S := (143, l6, [.inr (.inl 10), .inr (.inl (10 ^ k))], t103, n, 0)) rfl (fun _ => rfl) rfl ?_
    refine ex_go (S := (144, l6, [.inr (.inl ((lN (10 ^ k) * lN 10).toBitVec.toNat))], t103, n, 0)) rfl (fun _ => rfl) rfl ?_
    rw [sp_lmul (show (10 ^ k) * 10 < 18446744073709551616 from by omega)]
    refine gx_sto (i := 6) (d := 1) rfl (fun _ => rfl) rfl rfl (fun l7 hl7 ml7 => ?_)
    have l7_0 : en_ld l7 0 = some (gx_r 383) := ml7 0 _ l6_0 rfl
    have l7_1 : en_ld l7 1 = some (.inl set) := ml7 1 _ l6_1 rfl
    have l7_2 : en_ld l7 2 = some (.inl one) := ml7 2 _ l6_2 rfl
    have l7_3 : en_ld l7 3 = some (.inl (lostp set tk nl)) := ml7 3 _ l6_3 rfl
    have l7_8 : en_ld l7 8 = some (.inl k) := ml7 8 _ l6_8 rfl
    have l7_4 : en_ld l7 4 = some (.inr (.inl ((v0 * lohp (fun i => 10 - lowx L i) (lostp set tk nl) k) * (10 - (lowx L (lostp set tk nl + k)))))) := ml7 4 _ hl6 rfl
    refine gx_incS (i := 8) (a := k) (x := 1) rfl (fun _ => rfl) l7_8 (by first | decide | omega) rfl (fun l8 hl8 ml8 => ?_)
    have l8_0 : en_ld l8 0 = some (gx_r 383) := ml8 0 _ l7_0 rfl
    have l8_1 : en_ld l8 1 = some (.inl set) := ml8 1 _ l7_1 rfl
    have l8_2 : en_ld l8 2 = some (.inl one) := ml8 2 _ l7_2 rfl
    have l8_3 : en_ld l8 3 = some (.inl (lostp set tk nl)) := ml8 3 _ l7_3 rfl
    have l8_4 : en_ld l8 4 = some (.inr (.inl ((v0 * lohp (fun i => 10 - lowx L i) (lostp set tk nl) k) * (10 - (lowx L (lostp set tk nl + k)))))) := ml8 4 _ l7_4 rfl
    have l8_6 : en_ld l8 6 = some (.inr (.inl ((10 ^ k) * 10))) := ml8 6 _ hl7 rfl
    refine ex_go (S := (92, l8, [], t103, n, 0)) rfl (fun _ => rfl) rfl ?_
    exact ih (k + 1) _ t103 (by first | decide | omega) g103 (fun c i h => ((e103 c i (by first | decide | omega)).trans (e101 c i (by first | decide | omega))).trans (e0 c i h)) l8_0 l8_1 l8_2 l8_3 (by show _ = some (Sum.inr (Sum.inl (v0 * (lohp (fun i => 10 - lowx L i) (lostp set tk nl) k * (10 - lowx L (lostp set tk nl + k)))))); rw [← Nat.mul_assoc]; exact l8_4) (by rw [Nat.pow_succ]; exact l8_6) hl8
theorem pe_carryOf (d n : Nat) {tb : en_H} {nl set one c : Nat} {wt tk : Nat → Nat} {L : List Nat} (g0 : ai_HG ah_G tb) (kn : ai_hv tb 389 8 = some (.inl nl)) (hn : nl ≤ 6) (kw : ∀ k, k < nl → ai_hv tb 389 (140 + 2 * k) = some (.inl (wt k))) (hw : ∀ k, k < nl → wt k ≤ 999) (kt : ∀ k, k < nl → ai_hv tb 389 (140 + 2 * k + 1) = some (.inl (tk k))) (ht : ∀ k, k < nl → 0 ≤ tk k ∧ tk k ≤ 9) (hL : RLL tb 2 2 L) (hset : set < 64) (hone : one < nl) (kc : ai_hv tb 411 (losb set one) = some (.inl c)) (hc : c ≤ 62937000) (hsb : losb set one < 64) : ∃ r, en_u (d + 4) 161 [gx_r 383, .inl set, .inl one] tb n = some r ∧ ∃ t', r = (some (.inl (lomn (fun i => 10 - lowx L i) (lostp set tk nl) (tk one) (1000 * wt one + c))), t', n, 0) ∧ ai_HG ah_G t' ∧ (∀ c i, ¬ ((c = 397 ∧ i = 1) ∨ c = 398) → ai_hv t' c i = ai_hv tb c i) := by
  have hH : ∀ i, (fun i => 10 - lowx L i) i ≤ 10 := fun i => Nat.sub_le _ _
  have hst := lostp_le (s := set) (tk := tk) nl (fun q hq => (ht q hq).2)
  have ht1 := ht one hone
  have hw1 := hw one hone
  refine en_u_ex (d := d + 3) rfl ?_
  show en_ex _ _ _ _ (0, [(0, gx_r 383), (1, .inl set), (2, .inl one)], [], tb, n, 0) _
  refine ex_go (S := (1, [(0, gx_r 383), (1, .inl set), (2, .inl one)], [.inl 0], tb, n, 0)) rfl (fun _ => rfl) rfl ?_
  refine ex_go (S := (2, [(3, .inl 0), (0, gx_r 383), (1, .inl set), (2, .inl one)], [], tb, n, 0)) rfl (fun _ => rfl) rfl ?_
  refine ex_go (S := (3, [(3, .inl 0), (0, gx_r 383), (1, .inl set), (2, .inl one)], [.inl 0], tb, n, 0)) rfl (fun _ => rfl) rfl ?_
  refine ex_go (S := (5, [(4, .inl 0), (3, .inl 0), (0, gx_r 383), (1, .inl set), (2, .inl one)], [], tb, n, 0)) rfl (fun _ => rfl) rfl ?_
  refine pe_cof_a g0 kn hn kw hw kt ht hset (fun cl h0 h1 h2 h3 => ?_) nl 0 _ (by first | decide | omega) rfl rfl rfl rfl rfl
  refine ex_go (S := (58, cl, [.inr (.inl 1000)], tb, n, 0)) rfl (fun _ => rfl) rfl ?_
  refine gx_ld (i := 0) (d := 2) (v := gx_r 383) rfl (fun _ => rfl) h0 rfl rfl ?_
  refine gx_ref (c := 389) rfl g0 rfl rfl rfl rfl ?_
  refine ex_go (S := (65, cl, [.inl 140, gx_r 389, .inr (.inl 1000)], tb, n, 0)) rfl (fun _ => rfl) rfl ?_
  refine ex_go (S := (66, cl, [.inl 2, .inl 140, gx_r 389, .inr (.inl 1000)], tb, n, 0)) rfl (fun _ => rfl) rfl ?_
  refine gx_ld (i := 2) (d := 0) (v := .inl one) rfl (fun _ => rfl) h2 rfl rfl ?_
  refine gx_imul rfl (by first | decide | omega) rfl ?_
  refine ex_iadd rfl (by first | decide | omega) rfl ?_
  refine gx_ag (v := .inl (wt one)) (cb := fun c => Nat.beq c 0) rfl (fun _ => rfl) g0 rfl rfl (kw one hone) (by first | decide | omega) rfl ?_
  refine ex_go (S := (71, cl, [.inr (.inl ((nI (wt one)).toInt64.toBitVec.toNat)), .inr (.inl 1000)], tb, n, 0)) rfl (fun _ => rfl) rfl ?_
  rw [sp_i2l (show wt one < 2147483648 from by omega)]
  refine ex_go (S := (72, cl, [.inr (.inl ((lN 1000 * lN (wt one)).toBitVec.toNat))], tb, n, 0)) rfl (fun _ => rfl) rfl ?_
  rw [sp_lmul (show 1000 * (wt one) < 18446744073709551616 from by omega)]
  refine gx_ld (i := 0) (d := 2) (v := gx_r 383) rfl (fun _ => rfl) h0 rfl rfl ?_
  refine gx_ref (c := 411) rfl g0 rfl rfl rfl rfl ?_
  refine gx_ld (i := 1) (d := 0) (v := .inl set) rfl (fun _ => rfl) h1 rfl rfl ?_
  refine ex_go (S := (78, cl, [.inl 1, .inl set, gx_r 411, .inr (.inl (1000 * (wt one)))], tb, n, 0)) rfl (fun _ => rfl) rfl ?_
  refine gx_ld (i := 2) (d := 0) (v := .inl one) rfl (fun _ => rfl) h2 rfl rfl ?_
  refine ex_go (S := (80, cl, [.inl ((nI 1 <<< (nI one &&& 31)).toBitVec.toNat), .inl set, gx_r 411, .inr (.inl (1000 * (wt one)))], tb, n, 0)) rfl (fun _ => rfl) rfl ?_
  refine ex_go (S := (81, cl, [.inl ((nI set ||| nI ((nI 1 <<< (nI one &&& 31)).toBitVec.toNat)).toBitVec.toNat), gx_r 411, .inr (.inl (1000 * (wt one)))], tb, n, 0)) rfl (fun _ => rfl) rfl ?_
  rw [gx_losb (by first | decide | omega) (by first | decide | omega)]
  refine gx_ag (v := .inl c) (cb := fun c => Nat.beq c 0) rfl (fun _ => rfl) g0 rfl rfl kc (by first | decide | omega) rfl ?_
  refine ex_go (S := (83, cl, [.inr (.inl ((nI c).toInt64.toBitVec.toNat)), .inr (.inl (1000 * (wt one)))], tb, n, 0)) rfl (fun _ => rfl) rfl ?_
  rw [sp_i2l (show c < 2147483648 from by omega)]
  refine ex_go (S := (84, cl, [.inr (.inl ((lN (1000 * (wt one)) + lN c).toBitVec.toNat))], tb, n, 0)) rfl (fun _ => rfl) rfl ?_
  rw [sp_ladd (show (1000 * (wt one)) + c < 18446744073709551616 from by omega)]
  refine gx_sto (i := 4) (d := 1) rfl (fun _ => rfl) rfl rfl (fun l1 hl1 ml1 => ?_)
  have l1_0 : en_ld l1 0 = some (gx_r 383) := ml1 0 _ h0 rfl
  have l1_1 : en_ld l1 1 = some (.inl set) := ml1 1 _ h1 rfl
  have l1_2 : en_ld l1 2 = some (.inl one) := ml1 2 _ h2 rfl
  have l1_3 : en_ld l1 3 = some (.inl (lostp set tk nl)) := ml1 3 _ h3 rfl
  refine ex_go (S := (87, l1, [.inr (.inl 1)], tb, n, 0)) rfl (fun _ => rfl) rfl ?_
  refine gx_sto (i := 6) (d := 1) rfl (fun _ => rfl) rfl rfl (fun l2 hl2 ml2 => ?_)
  have l2_0 : en_ld l2 0 = some (gx_r 383) := ml2 0 _ l1_0 rfl
  have l2_1 : en_ld l2 1 = some (.inl set) := ml2 1 _ l1_1 rfl
  have l2_2 : en_ld l2 2 = some (.inl one) := ml2 2 _ l1_2 rfl
  have l2_3 : en_ld l2 3 = some (.inl (lostp set tk nl)) := ml2 3 _ l1_3 rfl
  have l2_4 : en_ld l2 4 = some (.inr (.inl ((1000 * (wt one)) + c))) := ml2 4 _ hl1 rfl
  refine ex_go (S := (90, l2, [.inl 0], tb, n, 0)) rfl (fun _ => rfl) rfl ?_
  refine gx_sto (i := 8) (d := 0) rfl (fun _ => rfl) rfl rfl (fun l3 hl3 ml3 => ?_)
  have l3_0 : en_ld l3 0 = some (gx_r 383) := ml3 0 _ l2_0 rfl
  have l3_1 : en_ld l3 1 = some (.inl set) := ml3 1 _ l2_1 rfl
  have l3_2 : en_ld l3 2 = some (.inl one) := ml3 2 _ l2_2 rfl
  have l3_3 : en_ld l3 3 = some (.inl (lostp set tk nl)) := ml3 3 _ l2_3 rfl
  have l3_4 : en_ld l3 4 = some (.inr (.inl ((1000 * (wt one)) + c))) := ml3 4 _ l2_4 rfl
  have l3_6 : en_ld l3 6 = some (.inr (.inl 1)) := ml3 6 _ hl2 rfl
  refine pe_cof_b d n (tb := tb) (set := set) (one := one) (v0 := 1000 * wt one + c) kn hn kw hw kt ht hone (by first | decide | omega) hL (fun cl2 tx gx ex m4 m6 => ?_) (tk one) 0 _ tb (by first | decide | omega) g0 (fun _ _ _ => rfl) l3_0 l3_1 l3_2 l3_3 (by rw [show (1000 * wt one + c) * lohp (fun i => 10 - lowx L i) (lostp set tk nl) 0 = 1000 * wt one + c from Nat.mul_one _]; exact l3_4) l3_6 hl3
  have hp1 := lohp_le hH (lostp set tk nl) (tk one)
  have hp2 := lop10_le (show tk one ≤ 9 by omega)
  have hp0 := lop10_pos (tk one)
  have hp3 : (1000 * wt one + c) * lohp (fun i => 10 - lowx L i) (lostp set tk nl) (tk one) ≤ 63936000 * 1000000000 := Nat.mul_le_mul (by first | decide | omega) (Nat.le_trans hp1 hp2)
  refine gx_ld (i := 4) (d := 1) (v := .inr (.inl ((1000 * wt one + c) * lohp (fun i => 10 - lowx L i) (lostp set tk nl) (tk one)))) rfl (fun _ => rfl) m4 rfl rfl ?_
  refine gx_ld (i := 6) (d := 1) (v := .inr (.inl (10 ^ tk one))) rfl (fun _ => rfl) m6 rfl rfl ?_
  refine gx_ldivn rfl (by first | decide | omega) (by first | decide | omega) (by first | decide | omega) rfl ?_
  have hm9 := lomn_le hH (s := lostp set tk nl) (k := tk one) (v := 1000 * wt one + c)
  have hme : (1000 * wt one + c) * lohp (fun i => 10 - lowx L i) (lostp set tk nl) (tk one) / 10 ^ tk one = lomn (fun i => 10 - lowx L i) (lostp set tk nl) (tk one) (1000 * wt one + c) := rfl
  rw [hme]
  show en_ex _ _ _ _ (157, cl2, [.inr (.inl (lomn (fun i => 10 - lowx L i) (lostp set tk nl) (tk one) (1000 * wt one + c)))], tx, n, 0) _
  refine ex_go (S := (158, cl2, [.inl ((lN (lomn (fun i => 10 - lowx L i) (lostp set tk nl) (tk one) (1000 * wt one + c))).toInt32.toBitVec.toNat)], tx, n, 0)) rfl (fun _ => rfl) rfl ?_
  rw [zk_l2i (show lomn (fun i => 10 - lowx L i) (lostp set tk nl) (tk one) (1000 * wt one + c) < 2147483648 from by omega)]
  refine ex_ret (r := (some (.inl (lomn (fun i => 10 - lowx L i) (lostp set tk nl) (tk one) (1000 * wt one + c))), tx, n, 0)) rfl (fun _ => rfl) ?_
  exact ⟨_, rfl, tx, rfl, gx, ex⟩
theorem pe_bload_l (d n : Nat) {tb : en_H} {nl set : Nat} {wt tk : Nat → Nat} {L : List Nat} (kn : ai_hv tb 389 8 = some (.inl nl)) (hn : nl ≤ 6) (kw : ∀ k, k < nl → ai_hv tb 389 (140 + 2 * k) = some (.inl (wt k))) (hw : ∀ k, k < nl → wt k ≤ 999) (kt : ∀ k, k < nl → ai_hv tb 389 (140 + 2 * k + 1) = some (.inl (tk k))) (ht : ∀ k, k < nl → 0 ≤ tk k ∧ tk k ≤ 9) (hL : RLL tb 2 2 L) (hset : set < 64) (hsa : set ≤ loal nl) (kC : ∀ s, set < s → s ≤ loal nl → ai_hv tb 411 s = some (.inl (loCT (fun i => 10 - lowx L i) wt tk nl s))) : ∀ j k cl t0, k + j = nl → ai_HG ah_G t0 → (∀ c i, ¬ ((c = 397 ∧ i = 1) ∨ c = 398) → ai_hv t0 c i = ai_hv tb c i) → en_ld cl 0 = some (gx_r 383) → en_ld cl 1 = some (.inl set) → en_ld cl 2 = some (.inl (lowb (locv (fun i => 10 - lowx L i) wt tk nl (loCT (fun i => 10 - lowx L i) wt tk nl) set) set k)) → en_ld cl 3 = some (.inl k) → en_ex none (en_u (d + 4)) (en_code 160) (fun _ => false) (4, cl, [], t0, n, 0) (fun o => ∃ r, o = .inl r ∧ ∃ t', r = (some (.inl (lowb (locv (fun i => 10 - lowx L i) wt tk nl (loCT (fun i => 10 - lowx L i) wt tk nl) set) set nl)), t', n, 0) ∧ ai_HG ah_G t' ∧ (∀ c i, ¬ ((c = 397 ∧ i = 1) ∨ c = 398) → ai_hv t' c i = ai_hv tb c i)) := by
  have hH : ∀ i, (fun i => 10 - lowx L i) i ≤ 10 := fun i => Nat.sub_le _ _
  have hal := loal_lt hn
  have hcv : ∀ q, q < nl → lobt set q = 0 → locv (fun i => 10 - lowx L i) wt tk nl (loCT (fun i => 10 - lowx L i) wt tk nl) set q < 1000000000 := fun q hq hb => by
    have hs := losb_in hn hsa hset hq hb
    have h1 := loCT_b (tk := tk) hn hH hw hs.2
    have h2 := hw q hq
    have h3 : locv (fun i => 10 - lowx L i) wt tk nl (loCT (fun i => 10 - lowx L i) wt tk nl) set q ≤ 1000 * wt q + loCT (fun i => 10 - lowx L i) wt tk nl (losb set q) := lomn_le hH
    omega
  intro j
  induction j with
  | zero =>
    intro k cl t0 hj g0 e0 h0 h1 h2 h3
    have kn0 := (e0 389 8 (by first | decide | omega)).trans kn
    have hwi := lowb_in (locv (fun i => 10 - lowx L i) wt tk nl (loCT (fun i => 10 - lowx L i) wt tk nl) set) set k
    refine gx_ld (i := 3) (d := 0) (v := .inl k) rfl (fun _ => rfl) h3 rfl rfl ?_
    refine gx_ld (i := 0) (d := 2) (v := gx_r 383) rfl (fun _ => rfl) h0 rfl rfl ?_
    refine gx_ref (c := 389) rfl g0 rfl rfl rfl rfl ?_
    refine ex_go (S := (11, cl, [.inl 8, gx_r 389, .inl k], t0, n, 0)) rfl (fun _ => rfl) rfl ?_
    refine gx_ag (v := .inl nl) (cb := fun c => Nat.beq c 0) rfl (fun _ => rfl) g0 rfl rfl kn0 (by first | decide | omega) rfl ?_
    refine gx_2t (c := .ge) rfl (by first | decide | omega) (by first | decide | omega) (show nl ≤ k from by omega) rfl ?_
    refine gx_ld (i := 2) (d := 0) (v := .inl (lowb (locv (fun i => 10 - lowx L i) wt tk nl (loCT (fun i => 10 - lowx L i) wt tk nl) set) set k)) rfl (fun _ => rfl) h2 rfl rfl ?_
    refine ex_ret (r := (some (.inl (lowb (locv (fun i => 10 - lowx L i) wt tk nl (loCT (fun i => 10 - lowx L i) wt tk nl) set) set k)), t0, n, 0)) rfl (fun _ => rfl) ?_
    have hk : nl = k := by omega
    rw [hk]
    exact ⟨_, rfl, t0, rfl, g0, e0⟩
  | succ j ih =>
    intro k cl t0 hj g0 e0 h0 h1 h2 h3
    have kn0 := (e0 389 8 (by first | decide | omega)).trans kn
    have hwi := lowb_in (locv (fun i => 10 - lowx L i) wt tk nl (loCT (fun i => 10 - lowx L i) wt tk nl) set) set k
    refine gx_ld (i := 3) (d := 0) (v := .inl k) rfl (fun _ => rfl) h3 rfl rfl ?_
    refine gx_ld (i := 0) (d := 2) (v := gx_r 383) rfl (fun _ => rfl) h0 rfl rfl ?_
    refine gx_ref (c := 389) rfl g0 rfl rfl rfl rfl ?_
    refine ex_go (S := (11, cl, [.inl 8, gx_r 389, .inl k], t0, n, 0)) rfl (fun _ => rfl) rfl ?_
    refine gx_ag (v := .inl nl) (cb := fun c => Nat.beq c 0) rfl (fun _ => rfl) g0 rfl rfl kn0 (by first | decide | omega) rfl ?_
    refine gx_2f (c := .ge) rfl (by first | decide | omega) (by first | decide | omega) (show ¬ (nl ≤ k) from by omega) rfl ?_
    refine gx_ld (i := 1) (d := 0) (v := .inl set) rfl (fun _ => rfl) h1 rfl rfl ?_
    refine gx_ld (i := 3) (d := 0) (v := .inl k) rfl (fun _ => rfl) h3 rfl rfl ?_
    refine ex_go (S := (18, cl, [.inl ((nI set >>> (nI k &&& 31)).toBitVec.toNat)], t0, n, 0)) rfl (fun _ => rfl) rfl ?_
    refine ex_go (S := (19, cl, [.inl 1, .inl ((nI set >>> (nI k &&& 31)).toBitVec.toNat)], t0, n, 0)) rfl (fun _ => rfl) rfl ?_
    refine ex_go (S := (20, cl, [.inl ((nI ((nI set >>> (nI k &&& 31)).toBitVec.toNat) &&& nI 1).toBitVec.toNat)], t0, n, 0)) rfl (fun _ => rfl) rfl ?_
    rw [gx_lobt (by first | decide | omega) (by first | decide | omega)]
    have hbt := lobt_le set k
    by_cases hc1 : lobt set k ≠ 0
    · refine gx_1t (c := .ne) rfl (by first | decide | omega) hc1 rfl ?_
      refine ex_go (S := (28, cl, [.inl 0], t0, n, 0)) rfl (fun _ => rfl) rfl ?_
      refine gx_sto (i := 4) (d := 0) rfl (fun _ => rfl) rfl rfl (fun l2 hl2 ml2 => ?_)
      have l2_0 : en_ld l2 0 = some (gx_r 383) := ml2 0 _ h0 rfl
      have l2_1 : en_ld l2 1 = some (.inl set) := ml2 1 _ h1 rfl
      have l2_2 : en_ld l2 2 = some (.inl (lowb (locv (fun i => 10 - lowx L i) wt tk nl (loCT (fun i => 10 - lowx L i) wt tk nl) set) set k)) := ml2 2 _ h2 rfl
      have l2_3 : en_ld l2 3 = some (.inl k) := ml2 3 _ h3 rfl
      refine gx_ld (i := 4) (d := 0) (v := .inl 0) rfl (fun _ => rfl) hl2 rfl rfl ?_
      refine ex_go (S := (58, l2, [], t0, n, 0)) rfl (fun _ => rfl) rfl ?_
      refine gx_ld (i := 2) (d := 0) (v := .inl (lowb (locv (fun i => 10 - lowx L i) wt tk nl (loCT (fun i => 10 - lowx L i) wt tk nl) set) set k)) rfl (fun _ => rfl) l2_2 rfl rfl ?_
      refine gx_sto (i := 2) (d := 0) rfl (fun _ => rfl) rfl rfl (fun l3 hl3 ml3 => ?_)
      have l3_0 : en_ld l3 0 = some (gx_r 383) := ml3 0 _ l2_0 rfl
      have l3_1 : en_ld l3 1 = some (.inl set) := ml3 1 _ l2_1 rfl
      have l3_3 : en_ld l3 3 = some (.inl k) := ml3 3 _ l2_3 rfl
      have l3_4 : en_ld l3 4 = some (.inl 0) := ml3 4 _ hl2 rfl
      refine gx_incS (i := 3) (a := k) (x := 1) rfl (fun _ => rfl) l3_3 (by first | decide | omega) rfl (fun l4 hl4 ml4 => ?_)
      have l4_0 : en_ld l4 0 = some (gx_r 383) := ml4 0 _ l3_0 rfl
      have l4_1 : en_ld l4 1 = some (.inl set) := ml4 1 _ l3_1 rfl
      have l4_4 : en_ld l4 4 = some (.inl 0) := ml4 4 _ l3_4 rfl
      have l4_2 : en_ld l4 2 = some (.inl (lowb (locv (fun i => 10 - lowx L i) wt tk nl (loCT (fun i => 10 - lowx L i) wt tk nl) set) set k)) := ml4 2 _ hl3 rfl
      refine ex_go (S := (4, l4, [], t0, n, 0)) rfl (fun _ => rfl) rfl ?_
      exact ih (k + 1) _ t0 (by first | decide | omega) g0 (fun c i h => e0 c i h) l4_0 l4_1 (by rw [show lowb (locv (fun i => 10 - lowx L i) wt tk nl (loCT (fun i => 10 - lowx L i) wt tk nl) set) set (k + 1) = lowb (locv (fun i => 10 - lowx L i) wt tk nl (loCT (fun i => 10 - lowx L i) wt tk nl) set) set k from if_neg (fun z => by omega)]; exact l4_2) hl4
    · refine gx_1f (c := .ne) rfl (by first | decide | omega) hc1 rfl ?_
      refine ex_go (S := (24, cl, [.inl 1], t0, n, 0)) rfl (fun _ => rfl) rfl ?_
      refine ex_go (S := (28, cl, [.inl 1], t0, n, 0)) rfl (fun _ => rfl) rfl ?_
      refine gx_sto (i := 4) (d := 0) rfl (fun _ => rfl) rfl rfl (fun l5 hl5 ml5 => ?_)
      have l5_0 : en_ld l5 0 = some (gx_r 383) := ml5 0 _ h0 rfl
      have l5_1 : en_ld l5 1 = some (.inl set) := ml5 1 _ h1 rfl
      have l5_2 : en_ld l5 2 = some (.inl (lowb (locv (fun i => 10 - lowx L i) wt tk nl (loCT (fun i => 10 - lowx L i) wt tk nl) set) set k)) := ml5 2 _ h2 rfl
      have l5_3 : en_ld l5 3 = some (.inl k) := ml5 3 _ h3 rfl
      refine gx_ld (i := 4) (d := 0) (v := .inl 1) rfl (fun _ => rfl) hl5 rfl rfl ?_
      refine ex_go (S := (35, l5, [], t0, n, 0)) rfl (fun _ => rfl) rfl ?_
      have hb0 : lobt set k = 0 := by omega
      rcases hwi with hwi | ⟨hwi1, hwi2⟩
      · have hq6 : en_ld l5 2 = some (.inl 4294967295) := by rw [← hwi]; exact l5_2
        refine gx_ld (i := 2) (d := 0) (v := .inl 4294967295) rfl (fun _ => rfl) hq6 rfl rfl ?_
        refine ex_go (S := (54, l5, [], t0, n, 0)) rfl (fun _ => rfl) rfl ?_
        refine gx_ld (i := 3) (d := 0) (v := .inl k) rfl (fun _ => rfl) l5_3 rfl rfl ?_
        refine ex_go (S := (59, l5, [.inl k], t0, n, 0)) rfl (fun _ => rfl) rfl ?_
        refine gx_sto (i := 2) (d := 0) rfl (fun _ => rfl) rfl rfl (fun l7 hl7 ml7 => ?_)
        have l7_0 : en_ld l7 0 = some (gx_r 383) := ml7 0 _ l5_0 rfl
        have l7_1 : en_ld l7 1 = some (.inl set) := ml7 1 _ l5_1 rfl
        have l7_3 : en_ld l7 3 = some (.inl k) := ml7 3 _ l5_3 rfl
        have l7_4 : en_ld l7 4 = some (.inl 1) := ml7 4 _ hl5 rfl
        refine gx_incS (i := 3) (a := k) (x := 1) rfl (fun _ => rfl) l7_3 (by first | decide | omega) rfl (fun l8 hl8 ml8 => ?_)
        have l8_0 : en_ld l8 0 = some (gx_r 383) := ml8 0 _ l7_0 rfl
        have l8_1 : en_ld l8 1 = some (.inl set) := ml8 1 _ l7_1 rfl
        have l8_4 : en_ld l8 4 = some (.inl 1) := ml8 4 _ l7_4 rfl
        have l8_2 : en_ld l8 2 = some (.inl k) := ml8 2 _ hl7 rfl
        refine ex_go (S := (4, l8, [], t0, n, 0)) rfl (fun _ => rfl) rfl ?_
        exact ih (k + 1) _ t0 (by first | decide | omega) g0 (fun c i h => e0 c i h) l8_0 l8_1 (by rw [show lowb (locv (fun i => 10 - lowx L i) wt tk nl (loCT (fun i => 10 - lowx L i) wt tk nl) set) set (k + 1) = k from if_pos ⟨hb0, Or.inl hwi⟩]; exact l8_2) hl8
      · refine gx_ld (i := 2) (d := 0) (v := .inl (lowb (locv (fun i => 10 - lowx L i) wt tk nl (loCT (fun i => 10 - lowx L i) wt tk nl) set) set k)) rfl (fun _ => rfl) l5_2 rfl rfl ?_
        refine gx_1f (c := .lt) rfl (by first | decide | omega) (show ¬ (lowb (locv (fun i => 10 - lowx L i) wt tk nl (loCT (fun i => 10 - lowx L i) wt tk nl) set) set k < 0) from by omega) rfl ?_
        refine gx_ld (i := 0) (d := 2) (v := gx_r 383) rfl (fun _ => rfl) l5_0 rfl rfl ?_
        refine gx_ld (i := 1) (d := 0) (v := .inl set) rfl (fun _ => rfl) l5_1 rfl rfl ?_
        refine gx_ld (i := 3) (d := 0) (v := .inl k) rfl (fun _ => rfl) l5_3 rfl rfl ?_
        have hs109 := losb_in hn hsa hset (show k < nl by omega) hb0
        have hc109 := hcv k (by first | decide | omega) hb0
        obtain ⟨_, r109, t109, rfl, g109, e109⟩ := pe_carryOf (tb := t0) d n (set := set) (one := k) (c := loCT (fun i => 10 - lowx L i) wt tk nl (losb set k)) (wt := wt) (tk := tk) (L := L) g0 ((e0 389 8 (by first | decide | omega)).trans kn) hn (fun q hq => (e0 389 (140 + 2 * q) (by first | decide | omega)).trans (kw q hq)) hw (fun q hq => (e0 389 (140 + 2 * q + 1) (by first | decide | omega)).trans (kt q hq)) ht (RLL_keep hL (e0 389 (9 + 2) (by first | decide | omega)) (fun c i h => e0 c i (by first | decide | omega))) hset (by first | decide | omega) ((e0 411 (losb set k) (by first | decide | omega)).trans (kC _ hs109.1 hs109.2)) (loCT_b (tk := tk) hn hH hw hs109.2) (by first | decide | omega)
        have hg109 : lomn (fun i => 10 - lowx L i) (lostp set tk nl) (tk k) (1000 * wt k + loCT (fun i => 10 - lowx L i) wt tk nl (losb set k)) = locv (fun i => 10 - lowx L i) wt tk nl (loCT (fun i => 10 - lowx L i) wt tk nl) set k := rfl
        rw [hg109] at r109
        refine gx_call1 rfl rfl g0 rfl rfl r109 rfl ?_
        have k10 : ai_hv t109 389 8 = some (.inl nl) := (e109 389 8 (by first | decide | omega)).trans kn0
        show en_ex _ _ _ _ (45, l5, [.inl (locv (fun i => 10 - lowx L i) wt tk nl (loCT (fun i => 10 - lowx L i) wt tk nl) set k)], t109, n, 0) _
        refine gx_ld (i := 0) (d := 2) (v := gx_r 383) rfl (fun _ => rfl) l5_0 rfl rfl ?_
        refine gx_ld (i := 1) (d := 0) (v := .inl set) rfl (fun _ => rfl) l5_1 rfl rfl ?_
        refine gx_ld (i := 2) (d := 0) (v := .inl (lowb (locv (fun i => 10 - lowx L i) wt tk nl (loCT (fun i => 10 - lowx L i) wt tk nl) set) set k)) rfl (fun _ => rfl) l5_2 rfl rfl ?_
        have hs111 := losb_in hn hsa hset (show (lowb (locv (fun i => 10 - lowx L i) wt tk nl (loCT (fun i => 10 - lowx L i) wt tk nl) set) set k) < nl by omega) hwi2
        have hc111 := hcv (lowb (locv (fun i => 10 - lowx L i) wt tk nl (loCT (fun i => 10 - lowx L i) wt tk nl) set) set k) (by first | decide | omega) hwi2
        obtain ⟨_, r111, t111, rfl, g111, e111⟩ := pe_carryOf (tb := t109) d n (set := set) (one := (lowb (locv (fun i => 10 - lowx L i) wt tk nl (loCT (fun i => 10 - lowx L i) wt tk nl) set) set k)) (c := loCT (fun i => 10 - lowx L i) wt tk nl (losb set (lowb (locv (fun i => 10 - lowx L i) wt tk nl (loCT (fun i => 10 - lowx L i) wt tk nl) set) set k))) (wt := wt) (tk := tk) (L := L) g109 (((e109 389 8 (by first | decide | omega)).trans (e0 389 8 (by first | decide | omega))).trans kn) hn (fun q hq => ((e109 389 (140 + 2 * q) (by first | decide | omega)).trans (e0 389 (140 + 2 * q) (by first | decide | omega))).trans (kw q hq)) hw (fun q hq => ((e109 389 (140 + 2 * q + 1) (by first | decide | omega)).trans (e0 389 (140 + 2 * q + 1) (by first | decide | omega))).trans (kt q hq)) ht (RLL_keep hL ((e109 389 (9 + 2) (by first | decide | omega)).trans (e0 389 (9 + 2) (by first | decide | omega))) (fun c i h => (e109 c i (by first | decide | omega)).trans (e0 c i (by first | decide | omega)))) hset (by first | decide | omega) (((e109 411 (losb set (lowb (locv (fun i => 10 - lowx L i) wt tk nl (loCT (fun i => 10 - lowx L i) wt tk nl) set) set k)) (by first | decide | omega)).trans (e0 411 (losb set (lowb (locv (fun i => 10 - lowx L i) wt tk nl (loCT (fun i => 10 - lowx L i) wt tk nl) set) set k)) (by first | decide | omega))).trans (kC _ hs111.1 hs111.2)) (loCT_b (tk := tk) hn hH hw hs111.2) (by first | decide | omega)
        have hg111 : lomn (fun i => 10 - lowx L i) (lostp set tk nl) (tk (lowb (locv (fun i => 10 - lowx L i) wt tk nl (loCT (fun i => 10 - lowx L i) wt tk nl) set) set k)) (1000 * wt (lowb (locv (fun i => 10 - lowx L i) wt tk nl (loCT (fun i => 10 - lowx L i) wt tk nl) set) set k) + loCT (fun i => 10 - lowx L i) wt tk nl (losb set (lowb (locv (fun i => 10 - lowx L i) wt tk nl (loCT (fun i => 10 - lowx L i) wt tk nl) set) set k))) = locv (fun i => 10 - lowx L i) wt tk nl (loCT (fun i => 10 - lowx L i) wt tk nl) set (lowb (locv (fun i => 10 - lowx L i) wt tk nl (loCT (fun i => 10 - lowx L i) wt tk nl) set) set k) := rfl
        rw [hg111] at r111
        refine gx_call1 rfl rfl g109 rfl rfl r111 rfl ?_
        have k12 : ai_hv t111 389 8 = some (.inl nl) := (e111 389 8 (by first | decide | omega)).trans k10
        show en_ex _ _ _ _ (51, l5, [.inl (locv (fun i => 10 - lowx L i) wt tk nl (loCT (fun i => 10 - lowx L i) wt tk nl) set (lowb (locv (fun i => 10 - lowx L i) wt tk nl (loCT (fun i => 10 - lowx L i) wt tk nl) set) set k)), .inl (locv (fun i => 10 - lowx L i) wt tk nl (loCT (fun i => 10 - lowx L i) wt tk nl) set k)], t111, n, 0) _
        by_cases hc13 : locv (fun i => 10 - lowx L i) wt tk nl (loCT (fun i => 10 - lowx L i) wt tk nl) set k ≤ locv (fun i => 10 - lowx L i) wt tk nl (loCT (fun i => 10 - lowx L i) wt tk nl) set (lowb (locv (fun i => 10 - lowx L i) wt tk nl (loCT (fun i => 10 - lowx L i) wt tk nl) set) set k)
        · refine gx_2t (c := .le) rfl (by first | decide | omega) (by first | decide | omega) hc13 rfl ?_
          refine gx_ld (i := 2) (d := 0) (v := .inl (lowb (locv (fun i => 10 - lowx L i) wt tk nl (loCT (fun i => 10 - lowx L i) wt tk nl) set) set k)) rfl (fun _ => rfl) l5_2 rfl rfl ?_
          refine gx_sto (i := 2) (d := 0) rfl (fun _ => rfl) rfl rfl (fun l14 hl14 ml14 => ?_)
          have l14_0 : en_ld l14 0 = some (gx_r 383) := ml14 0 _ l5_0 rfl
          have l14_1 : en_ld l14 1 = some (.inl set) := ml14 1 _ l5_1 rfl
          have l14_3 : en_ld l14 3 = some (.inl k) := ml14 3 _ l5_3 rfl
          have l14_4 : en_ld l14 4 = some (.inl 1) := ml14 4 _ hl5 rfl
          refine gx_incS (i := 3) (a := k) (x := 1) rfl (fun _ => rfl) l14_3 (by first | decide | omega) rfl (fun l15 hl15 ml15 => ?_)
          have l15_0 : en_ld l15 0 = some (gx_r 383) := ml15 0 _ l14_0 rfl
          have l15_1 : en_ld l15 1 = some (.inl set) := ml15 1 _ l14_1 rfl
          have l15_4 : en_ld l15 4 = some (.inl 1) := ml15 4 _ l14_4 rfl
          have l15_2 : en_ld l15 2 = some (.inl (lowb (locv (fun i => 10 - lowx L i) wt tk nl (loCT (fun i => 10 - lowx L i) wt tk nl) set) set k)) := ml15 2 _ hl14 rfl
          refine ex_go (S := (4, l15, [], t111, n, 0)) rfl (fun _ => rfl) rfl ?_
          exact ih (k + 1) _ t111 (by first | decide | omega) g111 (fun c i h => ((e111 c i (by first | decide | omega)).trans (e109 c i (by first | decide | omega))).trans (e0 c i h)) l15_0 l15_1 (by rw [show lowb (locv (fun i => 10 - lowx L i) wt tk nl (loCT (fun i => 10 - lowx L i) wt tk nl) set) set (k + 1) = lowb (locv (fun i => 10 - lowx L i) wt tk nl (loCT (fun i => 10 - lowx L i) wt tk nl) set) set k from if_neg (fun z => by rcases z.2 with z | z <;> omega)]; exact l15_2) hl15
        · refine gx_2f (c := .le) rfl (by first | decide | omega) (by first | decide | omega) hc13 rfl ?_
          refine gx_ld (i := 3) (d := 0) (v := .inl k) rfl (fun _ => rfl) l5_3 rfl rfl ?_
          refine ex_go (S := (59, l5, [.inl k], t111, n, 0)) rfl (fun _ => rfl) rfl ?_
          refine gx_sto (i := 2) (d := 0) rfl (fun _ => rfl) rfl rfl (fun l16 hl16 ml16 => ?_)
          have l16_0 : en_ld l16 0 = some (gx_r 383) := ml16 0 _ l5_0 rfl
          have l16_1 : en_ld l16 1 = some (.inl set) := ml16 1 _ l5_1 rfl
          have l16_3 : en_ld l16 3 = some (.inl k) := ml16 3 _ l5_3 rfl
          have l16_4 : en_ld l16 4 = some (.inl 1) := ml16 4 _ hl5 rfl
          refine gx_incS (i := 3) (a := k) (x := 1) rfl (fun _ => rfl) l16_3 (by first | decide | omega) rfl (fun l17 hl17 ml17 => ?_)
          have l17_0 : en_ld l17 0 = some (gx_r 383) := ml17 0 _ l16_0 rfl
          have l17_1 : en_ld l17 1 = some (.inl set) := ml17 1 _ l16_1 rfl
          have l17_4 : en_ld l17 4 = some (.inl 1) := ml17 4 _ l16_4 rfl
          have l17_2 : en_ld l17 2 = some (.inl k) := ml17 2 _ hl16 rfl
          refine ex_go (S := (4, l17, [], t111, n, 0)) rfl (fun _ => rfl) rfl ?_
          exact ih (k + 1) _ t111 (by first | decide | omega) g111 (fun c i h => ((e111 c i (by first | decide | omega)).trans (e109 c i (by first | decide | omega))).trans (e0 c i h)) l17_0 l17_1 (by rw [show lowb (locv (fun i => 10 - lowx L i) wt tk nl (loCT (fun i => 10 - lowx L i) wt tk nl) set) set (k + 1) = k from if_pos ⟨hb0, Or.inr (by first | decide | omega)⟩]; exact l17_2) hl17
theorem pe_bestLoad (d n : Nat) {tb : en_H} {nl set : Nat} {wt tk : Nat → Nat} {L : List Nat} (g0 : ai_HG ah_G tb) (kn : ai_hv tb 389 8 = some (.inl nl)) (hn : nl ≤ 6) (kw : ∀ k, k < nl → ai_hv tb 389 (140 + 2 * k) = some (.inl (wt k))) (hw : ∀ k, k < nl → wt k ≤ 999) (kt : ∀ k, k < nl → ai_hv tb 389 (140 + 2 * k + 1) = some (.inl (tk k))) (ht : ∀ k, k < nl → 0 ≤ tk k ∧ tk k ≤ 9) (hL : RLL tb 2 2 L) (hset : set < 64) (hsa : set ≤ loal nl) (kC : ∀ s, set < s → s ≤ loal nl → ai_hv tb 411 s = some (.inl (loCT (fun i => 10 - lowx L i) wt tk nl s))) : ∃ r, en_u (d + 5) 160 [gx_r 383, .inl set] tb n = some r ∧ ∃ t', r = (some (.inl (lowb (locv (fun i => 10 - lowx L i) wt tk nl (loCT (fun i => 10 - lowx L i) wt tk nl) set) set nl)), t', n, 0) ∧ ai_HG ah_G t' ∧ (∀ c i, ¬ ((c = 397 ∧ i = 1) ∨ c = 398) → ai_hv t' c i = ai_hv tb c i) := by
  refine en_u_ex (d := d + 4) rfl ?_
  show en_ex _ _ _ _ (0, [(0, gx_r 383), (1, .inl set)], [], tb, n, 0) _
  refine ex_go (S := (1, [(0, gx_r 383), (1, .inl set)], [.inl 4294967295], tb, n, 0)) rfl (fun _ => rfl) rfl ?_
  refine ex_go (S := (2, [(2, .inl 4294967295), (0, gx_r 383), (1, .inl set)], [], tb, n, 0)) rfl (fun _ => rfl) rfl ?_
  refine ex_go (S := (3, [(2, .inl 4294967295), (0, gx_r 383), (1, .inl set)], [.inl 0], tb, n, 0)) rfl (fun _ => rfl) rfl ?_
  refine ex_go (S := (4, [(3, .inl 0), (2, .inl 4294967295), (0, gx_r 383), (1, .inl set)], [], tb, n, 0)) rfl (fun _ => rfl) rfl ?_
  exact pe_bload_l d n kn hn kw hw kt ht hL hset hsa kC nl 0 _ tb (by first | decide | omega) g0 (fun _ _ _ => rfl) rfl rfl rfl rfl
theorem pe_carry_l (d n : Nat) {tb : en_H} {nl wh : Nat} {wt tk : Nat → Nat} {L : List Nat} {Q : en_O → Prop} (kn : ai_hv tb 389 8 = some (.inl nl)) (hn : nl ≤ 6) (kw : ∀ k, k < nl → ai_hv tb 389 (140 + 2 * k) = some (.inl (wt k))) (hw : ∀ k, k < nl → wt k ≤ 999) (kt : ∀ k, k < nl → ai_hv tb 389 (140 + 2 * k + 1) = some (.inl (tk k))) (ht : ∀ k, k < nl → 0 ≤ tk k ∧ tk k ≤ 9) (hL : RLL tb 2 2 L) (hQ : ∀ cl t1, ai_HG ah_G t1 → (∀ c i, ¬ ((c = 397 ∧ i = 1) ∨ c = 398 ∨ c = 411) → ai_hv t1 c i = ai_hv tb c i) → (∀ s, s ≤ loal nl → ai_hv t1 411 s = some (.inl (loCT (fun i => 10 - lowx L i) wt tk nl s))) → en_ld cl 0 = some (gx_r 383) → en_ld cl 1 = some (.inl wh) → en_ex none (en_u (d + 5)) (en_code 80) (fun _ => false) (66, cl, [], t1, n, 0) Q) : ∀ m cl t0, m ≤ loal nl → ai_HG ah_G t0 → (∀ c i, ¬ ((c = 397 ∧ i = 1) ∨ c = 398 ∨ c = 411) → ai_hv t0 c i = ai_hv tb c i) → (∀ s, m ≤ s → s ≤ loal nl → ai_hv t0 411 s = some (.inl (loCT (fun i => 10 - lowx L i) wt tk nl s))) → en_ld cl 0 = some (gx_r 383) → en_ld cl 1 = some (.inl wh) → en_ld cl 3 = some (.inl (gz m)) → en_ex none (en_u (d + 5)) (en_code 80) (fun _ => false) (40, cl, [], t0, n, 0) Q := by
  have hH : ∀ i, (fun i => 10 - lowx L i) i ≤ 10 := fun i => Nat.sub_le _ _
  have hal := loal_lt hn
  intro m
  induction m with
  | zero =>
    intro cl t0 hm g0 e0 hC h0 h1 h3
    refine gx_ld (i := 3) (d := 0) (v := .inl 4294967295) rfl (fun _ => rfl) h3 rfl rfl ?_
    refine ex_go (S := (66, cl, [], t0, n, 0)) rfl (fun _ => rfl) rfl ?_
    exact hQ _ t0 g0 e0 (fun s h => hC s (Nat.zero_le _) h) h0 h1
  | succ m ih =>
    intro cl t0 hm g0 e0 hC h0 h1 h3
    obtain ⟨x9, hx9, hx8⟩ := lofr_ex hn (show m < loal nl by omega)
    refine gx_ld (i := 3) (d := 0) (v := .inl m) rfl (fun _ => rfl) h3 rfl rfl ?_
    refine gx_1f (c := .lt) rfl (by first | decide | omega) (show ¬ (m < 0) from by omega) rfl ?_
    refine gx_ld (i := 0) (d := 2) (v := gx_r 383) rfl (fun _ => rfl) h0 rfl rfl ?_
    refine gx_ref (c := 411) rfl g0 rfl rfl rfl rfl ?_
    refine gx_ld (i := 3) (d := 0) (v := .inl m) rfl (fun _ => rfl) h3 rfl rfl ?_
    refine gx_ld (i := 0) (d := 2) (v := gx_r 383) rfl (fun _ => rfl) h0 rfl rfl ?_
    refine gx_ld (i := 3) (d := 0) (v := .inl m) rfl (fun _ => rfl) h3 rfl rfl ?_
    refine gx_ld (i := 0) (d := 2) (v := gx_r 383) rfl (fun _ => rfl) h0 rfl rfl ?_
    refine gx_ld (i := 3) (d := 0) (v := .inl m) rfl (fun _ => rfl) h3 rfl rfl ?_
    obtain ⟨_, r101, t101, rfl, g101, e101⟩ := pe_bestLoad (tb := t0) (d) n (set := m) (nl := nl) (wt := wt) (tk := tk) (L := L) g0 ((e0 389 8 (by first | decide | omega)).trans kn) hn (fun q hq => (e0 389 (140 + 2 * q) (by first | decide | omega)).trans (kw q hq)) hw (fun q hq => (e0 389 (140 + 2 * q + 1) (by first | decide | omega)).trans (kt q hq)) ht (RLL_keep hL ((e0 389 (9 + 2) (by first | decide | omega))) (fun c i h => (e0 c i (by first | decide | omega)))) (by first | decide | omega) (by first | decide | omega) (fun s h1 h2 => hC s (by first | decide | omega) h2)
    obtain ⟨bb, hbb⟩ : ∃ b, b = lowb (locv (fun i => 10 - lowx L i) wt tk nl (loCT (fun i => 10 - lowx L i) wt tk nl) m) m nl := ⟨_, rfl⟩
    rw [← hbb] at r101
    have hlb := lowb_some (g := locv (fun i => 10 - lowx L i) wt tk nl (loCT (fun i => 10 - lowx L i) wt tk nl) m) nl hn hx9 hx8
    rw [← hbb] at hlb
    refine gx_call1 rfl rfl g0 rfl rfl r101 rfl ?_
    show en_ex _ _ _ _ (56, cl, [.inl bb, .inl m, gx_r 383, .inl m, gx_r 411], t101, n, 0) _
    have hs9 := losb_in hn (show m ≤ loal nl by omega) (by first | decide | omega) hlb.1 hlb.2
    have hc9 := loCT_b (tk := tk) hn hH hw hs9.2
    obtain ⟨_, r102, t102, rfl, g102, e102⟩ := pe_carryOf (tb := t101) (d + 1) n (set := m) (one := bb) (c := loCT (fun i => 10 - lowx L i) wt tk nl (losb m bb)) (wt := wt) (tk := tk) (L := L) g101 ((e101 389 8 (by first | decide | omega)).trans ((e0 389 8 (by first | decide | omega)).trans kn)) hn (fun q hq => (e101 389 (140 + 2 * q) (by first | decide | omega)).trans ((e0 389 (140 + 2 * q) (by first | decide | omega)).trans (kw q hq))) hw (fun q hq => (e101 389 (140 + 2 * q + 1) (by first | decide | omega)).trans ((e0 389 (140 + 2 * q + 1) (by first | decide | omega)).trans (kt q hq))) ht (RLL_keep hL ((e101 389 (9 + 2) (by first | decide | omega)).trans (e0 389 (9 + 2) (by first | decide | omega))) (fun c i h => (e101 c i (by first | decide | omega)).trans (e0 c i (by first | decide | omega)))) (by first | decide | omega) hlb.1 ((e101 411 (losb m bb) (by first | decide | omega)).trans (hC _ hs9.1 hs9.2)) hc9 (by first | decide | omega)
    have hv9 : lomn (fun i => 10 - lowx L i) (lostp m tk nl) (tk bb) (1000 * wt bb + loCT (fun i => 10 - lowx L i) wt tk nl (losb m bb)) = loCT (fun i => 10 - lowx L i) wt tk nl m := by rw [loCT_step hn (show m < loal nl by omega), ← hbb]; rfl
    rw [hv9] at r102
    have hb9 := loCT_b (tk := tk) (s := m) hn hH hw (by first | decide | omega)
    refine gx_call1 rfl rfl g101 rfl rfl r102 rfl ?_
    show en_ex _ _ _ _ (59, cl, [.inl (loCT (fun i => 10 - lowx L i) wt tk nl m), .inl m, gx_r 411], t102, n, 0) _
    refine gx_ap rfl (fun _ => rfl) g102 rfl rfl rfl (show m < 64 from by omega) (gx_run1 (show m < 64 from by omega)) (gx_full (by first | decide | omega)) rfl (fun t103 g103 k103 e103 => ?_)
    refine gx_decz (i := 3) (a := m) rfl (fun _ => rfl) h3 (by first | decide | omega) rfl (fun l4 hl4 ml4 => ?_)
    have l4_0 : en_ld l4 0 = some (gx_r 383) := ml4 0 _ h0 rfl
    have l4_1 : en_ld l4 1 = some (.inl wh) := ml4 1 _ h1 rfl
    refine ex_go (S := (40, l4, [], t103, n, 0)) rfl (fun _ => rfl) rfl ?_
    have hC2 : ∀ s, m ≤ s → s ≤ loal nl → ai_hv t103 411 s = some (.inl (loCT (fun i => 10 - lowx L i) wt tk nl s)) := fun s a1 a2 => by
      by_cases e9 : s = m
      · rw [e9]; exact k103
      · exact ((e103 411 s (by first | decide | omega)).trans ((e102 411 s (by first | decide | omega)).trans (e101 411 s (by first | decide | omega)))).trans (hC s (by first | decide | omega) a2)
    exact ih _ t103 (by first | decide | omega) g103 (fun c i h => ((e103 c i (by first | decide | omega)).trans ((e102 c i (by first | decide | omega)).trans (e101 c i (by first | decide | omega)))).trans (e0 c i h)) hC2 l4_0 l4_1 hl4
/-- what is to be carried out-/
noncomputable def carv (L : List Nat) (wt tk : Nat → Nat) (nl wh : Nat) : Nat := if wh = 0 then loCT (fun i => 10 - lowx L i) wt tk nl 0 else lowb (locv (fun i => 10 - lowx L i) wt tk nl (loCT (fun i => 10 - lowx L i) wt tk nl) 0) 0 nl
theorem pe_carry (d n : Nat) {t0 : en_H} {nl wh : Nat} {wt tk : Nat → Nat} {L : List Nat} (g0 : ai_HG ah_G t0) (kn : ai_hv t0 389 8 = some (.inl nl)) (hn : nl ≤ 6) (kw : ∀ k, k < nl → ai_hv t0 389 (140 + 2 * k) = some (.inl (wt k))) (hw : ∀ k, k < nl → wt k ≤ 999) (kt : ∀ k, k < nl → ai_hv t0 389 (140 + 2 * k + 1) = some (.inl (tk k))) (ht : ∀ k, k < nl → 0 ≤ tk k ∧ tk k ≤ 9) (hL : RLL t0 2 2 L) (hwh : wh < 4294967296) : ∃ r, en_u (d + 6) 80 [gx_r 383, .inl wh] t0 n = some r ∧ ∃ v t', r = (some (.inl v), t', n, 0) ∧ (¬ wh ≤ 1 → v = 4294967294) ∧ (wh ≤ 1 → v = carv L wt tk nl wh) := by
  have hH : ∀ i, (fun i => 10 - lowx L i) i ≤ 10 := fun i => Nat.sub_le _ _
  have hal := loal_lt hn
  refine en_u_ex (d := d + 5) rfl ?_
  show en_ex _ _ _ _ (0, [(0, gx_r 383), (1, .inl wh)], [], t0, n, 0) _
  refine ex_go (S := (1, [(0, gx_r 383), (1, .inl wh)], [gx_r 383], t0, n, 0)) rfl (fun _ => rfl) rfl ?_
  refine ex_go (S := (2, [(0, gx_r 383), (1, .inl wh)], [.inl 0, gx_r 383], t0, n, 0)) rfl (fun _ => rfl) rfl ?_
  refine gx_put rfl g0 rfl rfl (ai_in_h (by first | decide | omega) (by first | decide | omega) (by first | decide | omega)) rfl (fun t101 g101 k101 e101 => ?_)
  have k2 : ai_hv t101 389 8 = some (.inl nl) := (e101 389 8 (by first | decide | omega)).trans kn
  refine ex_go (S := (6, [(0, gx_r 383), (1, .inl wh)], [.inl wh], t101, n, 0)) rfl (fun _ => rfl) rfl ?_
  refine ex_go (S := (7, [(0, gx_r 383), (1, .inl wh)], [.inl 0, .inl wh], t101, n, 0)) rfl (fun _ => rfl) rfl ?_
  refine ex_go (S := (8, [(0, gx_r 383), (1, .inl wh)], [.inl 1, .inl 0, .inl wh], t101, n, 0)) rfl (fun _ => rfl) rfl ?_
  obtain ⟨_, r3, b4, rfl, b4b, q5⟩ := pz_within ((d + 4)) n (t0 := t101) (x := wh) (lo := 0) (hi := 1) (by first | decide | omega) (by first | decide | omega) (by first | decide | omega)
  refine ex_stat rfl rfl rfl rfl rfl r3 (Nat.le_refl _) rfl ?_
  show en_ex _ _ _ _ (11, [(0, gx_r 383), (1, .inl wh)], [.inl b4], t101, n, 0) _
  by_cases hc6 : b4 ≠ 0
  · refine gx_1t (c := .ne) rfl (by first | decide | omega) hc6 rfl ?_
    refine ex_go (S := (18, [(0, gx_r 383), (1, .inl wh)], [.inl 1], t101, n, 0)) rfl (fun _ => rfl) rfl ?_
    refine ex_go (S := (19, [(0, gx_r 383), (1, .inl wh)], [gx_r 383, .inl 1], t101, n, 0)) rfl (fun _ => rfl) rfl ?_
    refine gx_ref (c := 389) rfl g101 rfl rfl rfl rfl ?_
    refine ex_go (S := (24, [(0, gx_r 383), (1, .inl wh)], [.inl 8, gx_r 389, .inl 1], t101, n, 0)) rfl (fun _ => rfl) rfl ?_
    refine gx_ag (v := .inl nl) (cb := fun c => Nat.beq c 0) rfl (fun _ => rfl) g101 rfl rfl k2 (by first | decide | omega) rfl ?_
    refine ex_go (S := (26, [(0, gx_r 383), (1, .inl wh)], [.inl ((nI 1 <<< (nI nl &&& 31)).toBitVec.toNat)], t101, n, 0)) rfl (fun _ => rfl) rfl ?_
    refine ex_go (S := (27, [(0, gx_r 383), (1, .inl wh)], [.inl 1, .inl ((nI 1 <<< (nI nl &&& 31)).toBitVec.toNat)], t101, n, 0)) rfl (fun _ => rfl) rfl ?_
    refine ex_go (S := (28, [(0, gx_r 383), (1, .inl wh)], [.inl ((nI ((nI 1 <<< (nI nl &&& 31)).toBitVec.toNat) - nI 1).toBitVec.toNat)], t101, n, 0)) rfl (fun _ => rfl) rfl ?_
    rw [gx_loal (by first | decide | omega)]
    refine ex_go (S := (29, [(2, .inl (loal nl)), (0, gx_r 383), (1, .inl wh)], [], t101, n, 0)) rfl (fun _ => rfl) rfl ?_
    refine ex_go (S := (30, [(2, .inl (loal nl)), (0, gx_r 383), (1, .inl wh)], [gx_r 383], t101, n, 0)) rfl (fun _ => rfl) rfl ?_
    refine gx_ref (c := 411) rfl g101 rfl rfl rfl rfl ?_
    refine ex_go (S := (34, [(2, .inl (loal nl)), (0, gx_r 383), (1, .inl wh)], [.inl (loal nl), gx_r 411], t101, n, 0)) rfl (fun _ => rfl) rfl ?_
    refine ex_go (S := (35, [(2, .inl (loal nl)), (0, gx_r 383), (1, .inl wh)], [.inl 0, .inl (loal nl), gx_r 411], t101, n, 0)) rfl (fun _ => rfl) rfl ?_
    refine gx_ap rfl (fun _ => rfl) g101 rfl rfl rfl (show loal nl < 64 from by omega) (gx_run1 (show loal nl < 64 from by omega)) (gx_full (by first | decide | omega)) rfl (fun t107 g107 k107 e107 => ?_)
    have k8 : ai_hv t107 389 8 = some (.inl nl) := (e107 389 8 (by first | decide | omega)).trans k2
    have k9 : ai_hv t107 383 0 = some (.inl 0) := (e107 383 0 (by first | decide | omega)).trans k101
    refine ex_go (S := (37, [(2, .inl (loal nl)), (0, gx_r 383), (1, .inl wh)], [.inl (loal nl)], t107, n, 0)) rfl (fun _ => rfl) rfl ?_
    refine ex_go (S := (38, [(2, .inl (loal nl)), (0, gx_r 383), (1, .inl wh)], [.inl 1, .inl (loal nl)], t107, n, 0)) rfl (fun _ => rfl) rfl ?_
    refine gx_isubz rfl (by first | decide | omega) rfl ?_
    refine ex_go (S := (40, [(3, .inl (gz (loal nl))), (2, .inl (loal nl)), (0, gx_r 383), (1, .inl wh)], [], t107, n, 0)) rfl (fun _ => rfl) rfl ?_
    refine pe_carry_l d n (tb := t107) (wh := wh) (((e107 389 8 (by first | decide | omega)).trans (e101 389 8 (by first | decide | omega))).trans (kn)) hn (fun q hq => ((e107 389 (140 + 2 * q) (by first | decide | omega)).trans (e101 389 (140 + 2 * q) (by first | decide | omega))).trans ((kw q hq))) hw (fun q hq => ((e107 389 (140 + 2 * q + 1) (by first | decide | omega)).trans (e101 389 (140 + 2 * q + 1) (by first | decide | omega))).trans ((kt q hq))) ht (RLL_keep hL (((e107 389 (9 + 2) (by first | decide | omega)).trans (e101 389 (9 + 2) (by first | decide | omega)))) (fun c i h => ((e107 c i (by first | decide | omega)).trans (e101 c i (by first | decide | omega))))) (fun cl1 tx gx ex hCx m0 m1 => ?_) (loal nl) _ t107 (Nat.le_refl _) g107 (fun _ _ _ => rfl) (fun s a1 a2 => by
      have e9 : s = loal nl := by omega
      rw [e9, loCT_al]; exact k107) rfl rfl rfl
    have kn9 : ai_hv tx 389 8 = some (.inl nl) := (ex 389 8 (by first | decide | omega)).trans (((e107 389 8 (by first | decide | omega)).trans (e101 389 8 (by first | decide | omega))).trans kn)
    have kw9 : ∀ k, k < nl → ai_hv tx 389 (140 + 2 * k) = some (.inl (wt k)) := fun q hq => (ex 389 (140 + 2 * q) (by first | decide | omega)).trans (((e107 389 (140 + 2 * q) (by first | decide | omega)).trans (e101 389 (140 + 2 * q) (by first | decide | omega))).trans (kw q hq))
    have kt9 : ∀ k, k < nl → ai_hv tx 389 (140 + 2 * k + 1) = some (.inl (tk k)) := fun q hq => (ex 389 (140 + 2 * q + 1) (by first | decide | omega)).trans (((e107 389 (140 + 2 * q + 1) (by first | decide | omega)).trans (e101 389 (140 + 2 * q + 1) (by first | decide | omega))).trans (kt q hq))
    have hL9 : RLL tx 2 2 L := RLL_keep hL ((ex 389 (9 + 2) (by first | decide | omega)).trans ((e107 389 (9 + 2) (by first | decide | omega)).trans (e101 389 (9 + 2) (by first | decide | omega)))) (fun c i h => (ex c i (by first | decide | omega)).trans ((e107 c i (by first | decide | omega)).trans (e101 c i (by first | decide | omega))))
    have hb9 := loCT_b (tk := tk) (s := 0) hn hH hw (Nat.zero_le _)
    refine gx_ld (i := 1) (d := 0) (v := .inl wh) rfl (fun _ => rfl) m1 rfl rfl ?_
    by_cases hc10 : wh ≠ 0
    · refine gx_1t (c := .ne) rfl (by first | decide | omega) hc10 rfl ?_
      refine gx_ld (i := 0) (d := 2) (v := gx_r 383) rfl (fun _ => rfl) m0 rfl rfl ?_
      refine ex_go (S := (81, cl1, [.inl 0, gx_r 383], tx, n, 0)) rfl (fun _ => rfl) rfl ?_
      obtain ⟨_, r111, t111, rfl, g111, e111⟩ := pe_bestLoad (tb := tx) d n (set := 0) (nl := nl) (wt := wt) (tk := tk) (L := L) gx kn9 hn kw9 hw kt9 ht hL9 (by first | decide | omega) (by first | decide | omega) (fun s h1 h2 => hCx s h2)
      refine gx_call1 rfl rfl gx rfl rfl r111 rfl ?_
      show en_ex _ _ _ _ (84, cl1, [.inl (lowb (locv (fun i => 10 - lowx L i) wt tk nl (loCT (fun i => 10 - lowx L i) wt tk nl) 0) 0 nl)], t111, n, 0) _
      refine ex_ret (r := (some (.inl (lowb (locv (fun i => 10 - lowx L i) wt tk nl (loCT (fun i => 10 - lowx L i) wt tk nl) 0) 0 nl)), t111, n, 0)) rfl (fun _ => rfl) ?_
      exact ⟨_, rfl, _, t111, rfl, fun z => absurd z (by first | decide | omega), fun _ => (if_neg (by first | decide | omega)).symm⟩
    · refine gx_1f (c := .ne) rfl (by first | decide | omega) hc10 rfl ?_
      refine gx_ld (i := 0) (d := 2) (v := gx_r 383) rfl (fun _ => rfl) m0 rfl rfl ?_
      refine gx_ref (c := 411) rfl gx rfl rfl rfl rfl ?_
      refine ex_go (S := (75, cl1, [.inl 0, gx_r 411], tx, n, 0)) rfl (fun _ => rfl) rfl ?_
      refine gx_ag (v := .inl (loCT (fun i => 10 - lowx L i) wt tk nl 0)) (cb := fun c => Nat.beq c 0) rfl (fun _ => rfl) gx rfl rfl (hCx 0 (Nat.zero_le _)) (by first | decide | omega) rfl ?_
      refine ex_go (S := (84, cl1, [.inl (loCT (fun i => 10 - lowx L i) wt tk nl 0)], tx, n, 0)) rfl (fun _ => rfl) rfl ?_
      refine ex_ret (r := (some (.inl (loCT (fun i => 10 - lowx L i) wt tk nl 0)), tx, n, 0)) rfl (fun _ => rfl) ?_
      exact ⟨_, rfl, _, tx, rfl, fun z => absurd z (by first | decide | omega), fun _ => (if_pos (by first | decide | omega)).symm⟩
  · refine gx_1f (c := .ne) rfl (by first | decide | omega) hc6 rfl ?_
    refine ex_go (S := (16, [(0, gx_r 383), (1, .inl wh)], [.inl 4294967294], t101, n, 0)) rfl (fun _ => rfl) rfl ?_
    refine ex_ret (r := (some (.inl 4294967294), t101, n, 0)) rfl (fun _ => rfl) ?_
    exact ⟨_, rfl, _, t101, rfl, fun _ => rfl, fun z => absurd z (by first | decide | omega)⟩
theorem loal_bit {n k : Nat} (hn : n ≤ 6) (hk : k < n) : lobt (loal n) k = 1 := by
  have h : ((List.range 7).all (fun n => (List.range n).all (fun k => lobt (loal n) k == 1))) = true := by decide +kernel
  exact eq_of_beq (List.all_eq_true.mp (List.all_eq_true.mp h n (List.mem_range.mpr (by first | decide | omega))) k (List.mem_range.mpr hk))
theorem lowb_none {g : Nat → Nat} {s : Nat} : ∀ n, (∀ k, k < n → lobt s k = 1) → lowb g s n = 4294967295
  | 0, _ => rfl
  | n + 1, h => by
    have e : lowb g s (n + 1) = lowb g s n := if_neg (fun z => by have := h n (Nat.lt_succ_self n); omega)
    rw [e]
    exact lowb_none n (fun k hk => h k (by first | decide | omega))
/-- the worth of the best so far -/
noncomputable def lowv (g : Nat → Nat) (s k : Nat) : Nat := if lowb g s k = 4294967295 then 0 else g (lowb g s k)
theorem lowv_n {g : Nat → Nat} {s k : Nat} (h : lowb g s k = 4294967295) : lowv g s k = 0 := if_pos h
theorem lowv_s {g : Nat → Nat} {s k : Nat} (h : lowb g s k ≠ 4294967295) : lowv g s k = g (lowb g s k) := if_neg h
theorem loCT_v {H wt tk : Nat → Nat} {n s : Nat} (hn : n ≤ 6) (hs : s ≤ loal n) : lowv (locv H wt tk n (loCT H wt tk n) s) s n = loCT H wt tk n s := by
  by_cases e : s = loal n
  · rw [e, loCT_al]
    exact lowv_n (lowb_none n (fun k hk => loal_bit hn hk))
  · obtain ⟨x, hx, hb⟩ := lofr_ex hn (show s < loal n by omega)
    have h1 := lowb_some (g := locv H wt tk n (loCT H wt tk n) s) n hn hx hb
    rw [lowv_s (by first | decide | omega)]
    exact (loCT_step hn (by first | decide | omega)).symm
theorem lowb_k {g : Nat → Nat} {s k : Nat} (h : lobt s k = 0 ∧ (lowb g s k = 4294967295 ∨ g (lowb g s k) < g k)) (hk : k < 1000) : lowb g s (k + 1) = k ∧ lowv g s (k + 1) = g k := by
  have e : lowb g s (k + 1) = k := if_pos h
  refine ⟨e, ?_⟩
  rw [lowv_s (by first | decide | omega), e]
theorem lowb_n {g : Nat → Nat} {s k : Nat} (h : ¬ (lobt s k = 0 ∧ (lowb g s k = 4294967295 ∨ g (lowb g s k) < g k))) : lowb g s (k + 1) = lowb g s k ∧ lowv g s (k + 1) = lowv g s k := by
  have e : lowb g s (k + 1) = lowb g s k := if_neg h
  refine ⟨e, ?_⟩
  unfold lowv
  rw [e]
theorem lohp_s {H : Nat → Nat} {s k : Nat} : lohp H s k * H (s + k) = lohp H s (k + 1) := rfl
theorem pc_loadWorth (d n : Nat) {t0 : en_H} {f v : Nat} (g0 : ai_HG ah_G t0) (hf : f < 64) (k : ai_hv t0 190 f = some (.inl v)) : ∃ r, en_u (d + 1) 159 [gx_r 144, .inl f] t0 n = some r ∧ r = (some (.inl v), t0, n, 0) := by
  refine en_u_ex rfl ?_
  show en_ex _ _ _ _ (0, [(0, gx_r 144), (1, .inl f)], [], t0, n, 0) _
  refine ex_go (S := (1, [(0, gx_r 144), (1, .inl f)], [gx_r 144], t0, n, 0)) rfl (fun _ => rfl) rfl ?_
  refine gxo_ref (a := 144) (c := 190) rfl g0 rfl rfl rfl rfl rfl ?_
  refine ex_go (S := (5, [(0, gx_r 144), (1, .inl f)], [.inl f, gx_r 190], t0, n, 0)) rfl (fun _ => rfl) rfl ?_
  refine gx_ag (v := .inl v) (cb := fun c => Nat.beq c 0) rfl (fun _ => rfl) g0 rfl rfl k (by first | decide | omega) rfl ?_
  refine ex_ret (r := (some (.inl v), t0, n, 0)) rfl (fun _ => rfl) ?_
  exact ⟨_, rfl, rfl⟩
theorem pc_lmean224_l {fn : en_F} {n : Nat} {t0 : en_H} {x w9 t9 c st : Nat} {H : Nat → Nat} {Q : en_O → Prop} (g0 : ai_HG ah_G t0) (hx : x < 6) (k1 : ai_hv t0 226 x = some (.inl w9)) (hw9 : w9 ≤ 999) (k2 : ai_hv t0 227 x = some (.inl t9)) (ht9 : t9 ≤ 9) (hst : st + t9 ≤ 54) (hK : (∀ i, i < 54 → ai_hv t0 189 i = some (.inl (H i)))) (hH : ∀ i, H i ≤ 10) (hQ : ∀ cl, en_ld cl 1 = some (gx_r 224) → en_ld cl 2 = some (.inl x) → en_ld cl 3 = some (.inl c) → en_ld cl 5 = some (.inr (.inl (lohp H st t9))) → en_ld cl 7 = some (.inr (.inl (10 ^ t9))) → en_ex none fn (en_code 259) (fun _ => false) (60, cl, [], t0, n, 0) Q) : ∀ j k cl, k + j = t9 → en_ld cl 0 = some (gx_r 144) → en_ld cl 1 = some (gx_r 224) → en_ld cl 2 = some (.inl x) → en_ld cl 3 = some (.inl c) → en_ld cl 4 = some (.inl st) → en_ld cl 5 = some (.inr (.inl (lohp H st k))) → en_ld cl 7 = some (.inr (.inl (10 ^ k))) → en_ld cl 9 = some (.inl k) → en_ex none fn (en_code 259) (fun _ => false) (9, cl, [], t0, n, 0) Q := by
  intro j
  induction j with
  | zero =>
    intro k cl hj h0 h1 h2 h3 h4 h5 h7 h9
    have hk : k = t9 := by omega
    rw [hk] at h5 h7
    refine gx_ld (i := 9) (d := 0) (v := .inl k) rfl (fun _ => rfl) h9 rfl rfl ?_
    refine gx_ld (i := 1) (d := 2) (v := gx_r 224) rfl (fun _ => rfl) h1 rfl rfl ?_
    refine gxo_ref (a := 224) (c := 227) rfl g0 rfl rfl rfl rfl rfl ?_
    refine gx_ld (i := 2) (d := 0) (v := .inl x) rfl (fun _ => rfl) h2 rfl rfl ?_
    refine gx_ag (v := .inl t9) (cb := fun c => Nat.beq c 0) rfl (fun _ => rfl) g0 rfl rfl k2 (by first | decide | omega) rfl ?_
    refine gx_2t (c := .ge) rfl (by first | decide | omega) (by first | decide | omega) (show t9 ≤ k from by omega) rfl ?_
    exact hQ _ h1 h2 h3 h5 h7
  | succ j ih =>
    intro k cl hj h0 h1 h2 h3 h4 h5 h7 h9
    have hp1 := lohp_le hH st k
    have hp2 := lop10_le (show k ≤ 9 by omega)
    have hp4 : lohp H st k * H (st + k) ≤ 1000000000 * 10 := Nat.mul_le_mul (Nat.le_trans hp1 hp2) (hH _)
    refine gx_ld (i := 9) (d := 0) (v := .inl k) rfl (fun _ => rfl) h9 rfl rfl ?_
    refine gx_ld (i := 1) (d := 2) (v := gx_r 224) rfl (fun _ => rfl) h1 rfl rfl ?_
    refine gxo_ref (a := 224) (c := 227) rfl g0 rfl rfl rfl rfl rfl ?_
    refine gx_ld (i := 2) (d := 0) (v := .inl x) rfl (fun _ => rfl) h2 rfl rfl ?_
    refine gx_ag (v := .inl t9) (cb := fun c => Nat.beq c 0) rfl (fun _ => rfl) g0 rfl rfl k2 (by first | decide | omega) rfl ?_
    refine gx_2f (c := .ge) rfl (by first | decide | omega) (by first | decide | omega) (show ¬ (t9 ≤ k) from by omega) rfl ?_
    refine gx_ld (i := 4) (d := 0) (v := .inl st) rfl (fun _ => rfl) h4 rfl rfl ?_
    refine gx_ld (i := 9) (d := 0) (v := .inl k) rfl (fun _ => rfl) h9 rfl rfl ?_
    refine ex_iadd rfl (by first | decide | omega) rfl ?_
    refine ex_go (S := (27, cl, [.inl 54, .inl (st + k)], t0, n, 0)) rfl (fun _ => rfl) rfl ?_
    refine gx_2f (c := .ge) rfl (by first | decide | omega) (by first | decide | omega) (show ¬ (54 ≤ st + k) from by omega) rfl ?_
    refine gx_ld (i := 5) (d := 1) (v := .inr (.inl (lohp H st k))) rfl (fun _ => rfl) h5 rfl rfl ?_
    refine gx_ld (i := 0) (d := 2) (v := gx_r 144) rfl (fun _ => rfl) h0 rfl rfl ?_
    refine gxo_ref (a := 144) (c := 189) rfl g0 rfl rfl rfl rfl rfl ?_
    refine gx_ld (i := 4) (d := 0) (v := .inl st) rfl (fun _ => rfl) h4 rfl rfl ?_
    refine gx_ld (i := 9) (d := 0) (v := .inl k) rfl (fun _ => rfl) h9 rfl rfl ?_
    refine ex_iadd rfl (by first | decide | omega) rfl ?_
    have hh9 := hH (st + k)
    refine gx_ag (v := .inl (H (st + k))) (cb := fun c => Nat.beq c 0) rfl (fun _ => rfl) g0 rfl rfl (hK (st + k) (by first | decide | omega)) (by first | decide | omega) rfl ?_
    refine ex_go (S := (43, cl, [.inr (.inl ((nI (H (st + k))).toInt64.toBitVec.toNat)), .inr (.inl (lohp H st k))], t0, n, 0)) rfl (fun _ => rfl) rfl ?_
    rw [sp_i2l (show H (st + k) < 2147483648 from by omega)]
    refine ex_go (S := (44, cl, [.inr (.inl ((lN (lohp H st k) * lN (H (st + k))).toBitVec.toNat))], t0, n, 0)) rfl (fun _ => rfl) rfl ?_
    rw [sp_lmul (show (lohp H st k) * (H (st + k)) < 18446744073709551616 from by omega)]
    refine gx_sto (i := 5) (d := 1) rfl (fun _ => rfl) rfl rfl (fun l1 hl1 ml1 => ?_)
    have l1_0 : en_ld l1 0 = some (gx_r 144) := ml1 0 _ h0 rfl
    have l1_1 : en_ld l1 1 = some (gx_r 224) := ml1 1 _ h1 rfl
    have l1_2 : en_ld l1 2 = some (.inl x) := ml1 2 _ h2 rfl
    have l1_3 : en_ld l1 3 = some (.inl c) := ml1 3 _ h3 rfl
    have l1_4 : en_ld l1 4 = some (.inl st) := ml1 4 _ h4 rfl
    have l1_7 : en_ld l1 7 = some (.inr (.inl (10 ^ k))) := ml1 7 _ h7 rfl
    have l1_9 : en_ld l1 9 = some (.inl k) := ml1 9 _ h9 rfl
    refine gx_ld (i := 7) (d := 1) (v := .inr (.inl (10 ^ k))) rfl (fun _ => rfl) l1_7 rfl rfl ?_
    refine ex_go (S := (51, l1, [.inr (.inl 10), .inr (.inl (10 ^ k))], t0, n, 0)) rfl (fun _ => rfl) rfl ?_
    refine ex_go (S := (52, l1, [.inr (.inl ((lN (10 ^ k) * lN 10).toBitVec.toNat))], t0, n, 0)) rfl (fun _ => rfl) rfl ?_
    rw [sp_lmul (show (10 ^ k) * 10 < 18446744073709551616 from by omega)]
    refine gx_sto (i := 7) (d := 1) rfl (fun _ => rfl) rfl rfl (fun l2 hl2 ml2 => ?_)
    have l2_0 : en_ld l2 0 = some (gx_r 144) := ml2 0 _ l1_0 rfl
    have l2_1 : en_ld l2 1 = some (gx_r 224) := ml2 1 _ l1_1 rfl
    have l2_2 : en_ld l2 2 = some (.inl x) := ml2 2 _ l1_2 rfl
    have l2_3 : en_ld l2 3 = some (.inl c) := ml2 3 _ l1_3 rfl
    have l2_4 : en_ld l2 4 = some (.inl st) := ml2 4 _ l1_4 rfl
    have l2_9 : en_ld l2 9 = some (.inl k) := ml2 9 _ l1_9 rfl
    have l2_5 : en_ld l2 5 = some (.inr (.inl ((lohp H st k) * (H (st + k))))) := ml2 5 _ hl1 rfl
    refine gx_incS (i := 9) (a := k) (x := 1) rfl (fun _ => rfl) l2_9 (by first | decide | omega) rfl (fun l3 hl3 ml3 => ?_)
    have l3_0 : en_ld l3 0 = some (gx_r 144) := ml3 0 _ l2_0 rfl
    have l3_1 : en_ld l3 1 = some (gx_r 224) := ml3 1 _ l2_1 rfl
    have l3_2 : en_ld l3 2 = some (.inl x) := ml3 2 _ l2_2 rfl
    have l3_3 : en_ld l3 3 = some (.inl c) := ml3 3 _ l2_3 rfl
    have l3_4 : en_ld l3 4 = some (.inl st) := ml3 4 _ l2_4 rfl
    have l3_5 : en_ld l3 5 = some (.inr (.inl ((lohp H st k) * (H (st + k))))) := ml3 5 _ l2_5 rfl
    have l3_7 : en_ld l3 7 = some (.inr (.inl ((10 ^ k) * 10))) := ml3 7 _ hl2 rfl
    refine ex_go (S := (9, l3, [], t0, n, 0)) rfl (fun _ => rfl) rfl ?_
    exact ih (k + 1) _ (by first | decide | omega) l3_0 l3_1 l3_2 l3_3 l3_4 l3_5 (by rw [Nat.pow_succ]; exact l3_7) hl3
theorem pc_lmean224 (d n : Nat) {t0 : en_H} {x w9 t9 c st : Nat} {H : Nat → Nat} (g0 : ai_HG ah_G t0) (hx : x < 6) (k1 : ai_hv t0 226 x = some (.inl w9)) (hw9 : w9 ≤ 999) (k2 : ai_hv t0 227 x = some (.inl t9)) (ht9 : t9 ≤ 9) (hst : st + t9 ≤ 54) (hK : (∀ i, i < 54 → ai_hv t0 189 i = some (.inl (H i)))) (hH : ∀ i, H i ≤ 10) (hc : c ≤ 62937000) : ∃ r, en_u (d + 1) 259 [gx_r 144, gx_r 224, .inl x, .inl c, .inl st] t0 n = some r ∧ r = (some (.inl (lomn H st t9 (1000 * w9 + c))), t0, n, 0) := by
  refine en_u_ex rfl ?_
  show en_ex _ _ _ _ (0, [(0, gx_r 144), (1, gx_r 224), (2, .inl x), (3, .inl c), (4, .inl st)], [], t0, n, 0) _
  refine ex_go (S := (1, [(0, gx_r 144), (1, gx_r 224), (2, .inl x), (3, .inl c), (4, .inl st)], [.inr (.inl 1)], t0, n, 0)) rfl (fun _ => rfl) rfl ?_
  refine ex_go (S := (3, [(5, .inr (.inl 1)), (0, gx_r 144), (1, gx_r 224), (2, .inl x), (3, .inl c), (4, .inl st)], [], t0, n, 0)) rfl (fun _ => rfl) rfl ?_
  refine ex_go (S := (4, [(5, .inr (.inl 1)), (0, gx_r 144), (1, gx_r 224), (2, .inl x), (3, .inl c), (4, .inl st)], [.inr (.inl 1)], t0, n, 0)) rfl (fun _ => rfl) rfl ?_
  refine ex_go (S := (6, [(7, .inr (.inl 1)), (5, .inr (.inl 1)), (0, gx_r 144), (1, gx_r 224), (2, .inl x), (3, .inl c), (4, .inl st)], [], t0, n, 0)) rfl (fun _ => rfl) rfl ?_
  refine ex_go (S := (7, [(7, .inr (.inl 1)), (5, .inr (.inl 1)), (0, gx_r 144), (1, gx_r 224), (2, .inl x), (3, .inl c), (4, .inl st)], [.inl 0], t0, n, 0)) rfl (fun _ => rfl) rfl ?_
  refine ex_go (S := (9, [(9, .inl 0), (7, .inr (.inl 1)), (5, .inr (.inl 1)), (0, gx_r 144), (1, gx_r 224), (2, .inl x), (3, .inl c), (4, .inl st)], [], t0, n, 0)) rfl (fun _ => rfl) rfl ?_
  refine pc_lmean224_l g0 hx k1 hw9 k2 ht9 hst hK hH (c := c) (fun cl h1 h2 h3 h5 h7 => ?_) t9 0 _ (by first | decide | omega) rfl rfl rfl rfl rfl rfl rfl rfl
  have hp1 := lohp_le hH st t9
  have hp2 := lop10_le ht9
  have hp0 := lop10_pos t9
  have hp3 : (w9 * 1000 + c) * lohp H st t9 ≤ 63936000 * 1000000000 := Nat.mul_le_mul (by first | decide | omega) (Nat.le_trans hp1 hp2)
  have hm9 := lomn_le hH (s := st) (k := t9) (v := 1000 * w9 + c)
  refine gx_ld (i := 1) (d := 2) (v := gx_r 224) rfl (fun _ => rfl) h1 rfl rfl ?_
  refine gxo_ref (a := 224) (c := 226) rfl g0 rfl rfl rfl rfl rfl ?_
  refine gx_ld (i := 2) (d := 0) (v := .inl x) rfl (fun _ => rfl) h2 rfl rfl ?_
  refine gx_ag (v := .inl w9) (cb := fun c => Nat.beq c 0) rfl (fun _ => rfl) g0 rfl rfl k1 (by first | decide | omega) rfl ?_
  refine ex_go (S := (67, cl, [.inr (.inl ((nI w9).toInt64.toBitVec.toNat))], t0, n, 0)) rfl (fun _ => rfl) rfl ?_
  rw [sp_i2l (show w9 < 2147483648 from by omega)]
  refine ex_go (S := (70, cl, [.inr (.inl 1000), .inr (.inl w9)], t0, n, 0)) rfl (fun _ => rfl) rfl ?_
  refine ex_go (S := (71, cl, [.inr (.inl ((lN w9 * lN 1000).toBitVec.toNat))], t0, n, 0)) rfl (fun _ => rfl) rfl ?_
  rw [sp_lmul (show w9 * 1000 < 18446744073709551616 from by omega)]
  refine gx_ld (i := 3) (d := 0) (v := .inl c) rfl (fun _ => rfl) h3 rfl rfl ?_
  refine ex_go (S := (73, cl, [.inr (.inl ((nI c).toInt64.toBitVec.toNat)), .inr (.inl (w9 * 1000))], t0, n, 0)) rfl (fun _ => rfl) rfl ?_
  rw [sp_i2l (show c < 2147483648 from by omega)]
  refine ex_go (S := (74, cl, [.inr (.inl ((lN (w9 * 1000) + lN c).toBitVec.toNat))], t0, n, 0)) rfl (fun _ => rfl) rfl ?_
  rw [sp_ladd (show (w9 * 1000) + c < 18446744073709551616 from by omega)]
  refine gx_ld (i := 5) (d := 1) (v := .inr (.inl (lohp H st t9))) rfl (fun _ => rfl) h5 rfl rfl ?_
  refine ex_go (S := (77, cl, [.inr (.inl ((lN ((w9 * 1000) + c) * lN (lohp H st t9)).toBitVec.toNat))], t0, n, 0)) rfl (fun _ => rfl) rfl ?_
  rw [sp_lmul (show ((w9 * 1000) + c) * (lohp H st t9) < 18446744073709551616 from by omega)]
  refine gx_ld (i := 7) (d := 1) (v := .inr (.inl (10 ^ t9))) rfl (fun _ => rfl) h7 rfl rfl ?_
  refine gx_ldivn rfl (by first | decide | omega) (by first | decide | omega) (by first | decide | omega) rfl ?_
  have hme : (w9 * 1000 + c) * lohp H st t9 / 10 ^ t9 = lomn H st t9 (1000 * w9 + c) := by rw [Nat.mul_comm w9 1000]; rfl
  rw [show (((w9 * 1000) + c) * (lohp H st t9)) / (10 ^ t9) = lomn H st t9 (1000 * w9 + c) from hme]
  show en_ex _ _ _ _ (80, cl, [.inr (.inl (lomn H st t9 (1000 * w9 + c)))], t0, n, 0) _
  refine ex_go (S := (81, cl, [.inl ((lN (lomn H st t9 (1000 * w9 + c))).toInt32.toBitVec.toNat)], t0, n, 0)) rfl (fun _ => rfl) rfl ?_
  rw [zk_l2i (show lomn H st t9 (1000 * w9 + c) < 2147483648 from by omega)]
  refine ex_ret (r := (some (.inl (lomn H st t9 (1000 * w9 + c))), t0, n, 0)) rfl (fun _ => rfl) ?_
  exact ⟨_, rfl, rfl⟩
theorem pc_fload224_a {fn : en_F} {n : Nat} {tb : en_H} {nl sx : Nat} {wt tk : Nat → Nat} {Q : en_O → Prop} (gb : ai_HG ah_G tb) (kn : ai_hv tb 224 5 = some (.inl nl)) (hn : nl ≤ 6) (kw : ∀ k, k < nl → ai_hv tb 226 k = some (.inl (wt k))) (hw : ∀ k, k < nl → wt k ≤ 999) (kt : ∀ k, k < nl → ai_hv tb 227 k = some (.inl (tk k))) (ht : ∀ k, k < nl → 0 ≤ tk k ∧ tk k ≤ 9) (hset : sx < 64) (hQ : ∀ cl, en_ld cl 0 = some (gx_r 144) → en_ld cl 1 = some (gx_r 224) → en_ld cl 2 = some (.inl sx) → en_ld cl 3 = some (.inl (lostp sx tk nl)) → en_ex none fn (en_code 220) (fun _ => false) (43, cl, [], tb, n, 0) Q) : ∀ j k cl, k + j = nl → en_ld cl 0 = some (gx_r 144) → en_ld cl 1 = some (gx_r 224) → en_ld cl 2 = some (.inl sx) → en_ld cl 3 = some (.inl (lostp sx tk k)) → en_ld cl 4 = some (.inl k) → en_ex none fn (en_code 220) (fun _ => false) (5, cl, [], tb, n, 0) Q := by
  intro j
  induction j with
  | zero =>
    intro k cl hj h0 h1 h2 h3 h4
    have hst := lostp_le (s := sx) (tk := tk) k (fun q hq => (ht q (by first | decide | omega)).2)
    refine gx_ld (i := 4) (d := 0) (v := .inl k) rfl (fun _ => rfl) h4 rfl rfl ?_
    refine gx_ld (i := 1) (d := 2) (v := gx_r 224) rfl (fun _ => rfl) h1 rfl rfl ?_
    refine gxo_get (a := 224) rfl gb rfl rfl kn rfl ?_
    refine gx_2t (c := .ge) rfl (by first | decide | omega) (by first | decide | omega) (show nl ≤ k from by omega) rfl ?_
    have hk : k = nl := by omega
    rw [hk] at h3
    exact hQ _ h0 h1 h2 h3
  | succ j ih =>
    intro k cl hj h0 h1 h2 h3 h4
    have hst := lostp_le (s := sx) (tk := tk) k (fun q hq => (ht q (by first | decide | omega)).2)
    refine gx_ld (i := 4) (d := 0) (v := .inl k) rfl (fun _ => rfl) h4 rfl rfl ?_
    refine gx_ld (i := 1) (d := 2) (v := gx_r 224) rfl (fun _ => rfl) h1 rfl rfl ?_
    refine gxo_get (a := 224) rfl gb rfl rfl kn rfl ?_
    refine gx_2f (c := .ge) rfl (by first | decide | omega) (by first | decide | omega) (show ¬ (nl ≤ k) from by omega) rfl ?_
    refine gx_ld (i := 3) (d := 0) (v := .inl (lostp sx tk k)) rfl (fun _ => rfl) h3 rfl rfl ?_
    refine gx_ld (i := 2) (d := 0) (v := .inl sx) rfl (fun _ => rfl) h2 rfl rfl ?_
    refine gx_ld (i := 4) (d := 0) (v := .inl k) rfl (fun _ => rfl) h4 rfl rfl ?_
    refine ex_go (S := (19, cl, [.inl ((nI sx >>> (nI k &&& 31)).toBitVec.toNat), .inl (lostp sx tk k)], tb, n, 0)) rfl (fun _ => rfl) rfl ?_
    refine ex_go (S := (20, cl, [.inl 1, .inl ((nI sx >>> (nI k &&& 31)).toBitVec.toNat), .inl (lostp sx tk k)], tb, n, 0)) rfl (fun _ => rfl) rfl ?_
    refine ex_go (S := (21, cl, [.inl ((nI ((nI sx >>> (nI k &&& 31)).toBitVec.toNat) &&& nI 1).toBitVec.toNat), .inl (lostp sx tk k)], tb, n, 0)) rfl (fun _ => rfl) rfl ?_
    rw [gx_lobt (by first | decide | omega) (by first | decide | omega)]
    have hbt := lobt_le sx k
    by_cases hc1 : lobt sx k = 0
    · refine gx_1t (c := .eq) rfl (by first | decide | omega) hc1 rfl ?_
      refine ex_go (S := (35, cl, [.inl 0, .inl (lostp sx tk k)], tb, n, 0)) rfl (fun _ => rfl) rfl ?_
      refine ex_iadd rfl (by first | decide | omega) rfl ?_
      refine gx_sto (i := 3) (d := 0) rfl (fun _ => rfl) rfl rfl (fun l2 hl2 ml2 => ?_)
      have l2_0 : en_ld l2 0 = some (gx_r 144) := ml2 0 _ h0 rfl
      have l2_1 : en_ld l2 1 = some (gx_r 224) := ml2 1 _ h1 rfl
      have l2_2 : en_ld l2 2 = some (.inl sx) := ml2 2 _ h2 rfl
      have l2_4 : en_ld l2 4 = some (.inl k) := ml2 4 _ h4 rfl
      refine gx_incS (i := 4) (a := k) (x := 1) rfl (fun _ => rfl) l2_4 (by first | decide | omega) rfl (fun l3 hl3 ml3 => ?_)
      have l3_0 : en_ld l3 0 = some (gx_r 144) := ml3 0 _ l2_0 rfl
      have l3_1 : en_ld l3 1 = some (gx_r 224) := ml3 1 _ l2_1 rfl
      have l3_2 : en_ld l3 2 = some (.inl sx) := ml3 2 _ l2_2 rfl
      have l3_3 : en_ld l3 3 = some (.inl ((lostp sx tk k) + 0)) := ml3 3 _ hl2 rfl
      refine ex_go (S := (5, l3, [], tb, n, 0)) rfl (fun _ => rfl) rfl ?_
      exact ih (k + 1) _ (by first | decide | omega) l3_0 l3_1 l3_2 (by show _ = some (Sum.inl (lostp sx tk k + (if lobt sx k = 1 then tk k else 0))); rw [if_neg (by first | decide | omega)]; exact l3_3) hl3
    · refine gx_1f (c := .eq) rfl (by first | decide | omega) hc1 rfl ?_
      refine gx_ld (i := 1) (d := 2) (v := gx_r 224) rfl (fun _ => rfl) h1 rfl rfl ?_
      refine gxo_ref (a := 224) (c := 227) rfl gb rfl rfl rfl rfl rfl ?_
      refine gx_ld (i := 4) (d := 0) (v := .inl k) rfl (fun _ => rfl) h4 rfl rfl ?_
      have hk1 := ht k (by first | decide | omega)
      refine gx_ag (v := .inl (tk k)) (cb := fun c => Nat.beq c 0) rfl (fun _ => rfl) gb rfl rfl (kt k (by first | decide | omega)) (by first | decide | omega) rfl ?_
      refine ex_go (S := (35, cl, [.inl (tk k), .inl (lostp sx tk k)], tb, n, 0)) rfl (fun _ => rfl) rfl ?_
      refine ex_iadd rfl (by first | decide | omega) rfl ?_
      refine gx_sto (i := 3) (d := 0) rfl (fun _ => rfl) rfl rfl (fun l4 hl4 ml4 => ?_)
      have l4_0 : en_ld l4 0 = some (gx_r 144) := ml4 0 _ h0 rfl
      have l4_1 : en_ld l4 1 = some (gx_r 224) := ml4 1 _ h1 rfl
      have l4_2 : en_ld l4 2 = some (.inl sx) := ml4 2 _ h2 rfl
      have l4_4 : en_ld l4 4 = some (.inl k) := ml4 4 _ h4 rfl
      refine gx_incS (i := 4) (a := k) (x := 1) rfl (fun _ => rfl) l4_4 (by first | decide | omega) rfl (fun l5 hl5 ml5 => ?_)
      have l5_0 : en_ld l5 0 = some (gx_r 144) := ml5 0 _ l4_0 rfl
      have l5_1 : en_ld l5 1 = some (gx_r 224) := ml5 1 _ l4_1 rfl
      have l5_2 : en_ld l5 2 = some (.inl sx) := ml5 2 _ l4_2 rfl
      have l5_3 : en_ld l5 3 = some (.inl ((lostp sx tk k) + (tk k))) := ml5 3 _ hl4 rfl
      refine ex_go (S := (5, l5, [], tb, n, 0)) rfl (fun _ => rfl) rfl ?_
      exact ih (k + 1) _ (by first | decide | omega) l5_0 l5_1 l5_2 (by show _ = some (Sum.inl (lostp sx tk k + (if lobt sx k = 1 then tk k else 0))); rw [if_pos (by first | decide | omega)]; exact l5_3) hl5
theorem pc_fload224_b (d n : Nat) {tb : en_H} {nl sx : Nat} {wt tk H : Nat → Nat} {Q : en_O → Prop} (kn : ai_hv tb 224 5 = some (.inl nl)) (hn : nl ≤ 6) (kw : ∀ k, k < nl → ai_hv tb 226 k = some (.inl (wt k))) (hw : ∀ k, k < nl → wt k ≤ 999) (kt : ∀ k, k < nl → ai_hv tb 227 k = some (.inl (tk k))) (ht : ∀ k, k < nl → 0 ≤ tk k ∧ tk k ≤ 9) (hset : sx < 64) (hsa : sx ≤ loal nl) (hK : (∀ i, i < 54 → ai_hv tb 189 i = some (.inl (H i)))) (hH : ∀ i, H i ≤ 10) (kC : ∀ s, sx < s → s ≤ loal nl → ai_hv tb 190 s = some (.inl (loCT H wt tk nl s))) (hQ : ∀ t1, ai_HG ah_G t1 → (∀ c i, ¬ ((c = 144 ∧ i = 2) ∨ (c = 190 ∧ i = sx)) → ai_hv t1 c i = ai_hv tb c i) → ai_hv t1 144 2 = some (.inl (lowb (locv H wt tk nl (loCT H wt tk nl) sx) sx nl)) → ai_hv t1 190 sx = some (.inl (lowv (locv H wt tk nl (loCT H wt tk nl) sx) sx nl)) → Q (.inl (none, t1, n, 0))) : ∀ j k cl t0, k + j = nl → ai_HG ah_G t0 → (∀ c i, ¬ ((c = 144 ∧ i = 2) ∨ (c = 190 ∧ i = sx)) → ai_hv t0 c i = ai_hv tb c i) → ai_hv t0 144 2 = some (.inl (lowb (locv H wt tk nl (loCT H wt tk nl) sx) sx k)) → ai_hv t0 190 sx = some (.inl (lowv (locv H wt tk nl (loCT H wt tk nl) sx) sx k)) → en_ld cl 0 = some (gx_r 144) → en_ld cl 1 = some (gx_r 224) → en_ld cl 2 = some (.inl sx) → en_ld cl 3 = some (.inl (lostp sx tk nl)) → en_ld cl 4 = some (.inl k) → en_ex none (en_u (d + 1)) (en_code 220) (fun _ => false) (58, cl, [], t0, n, 0) Q := by
  have hal := loal_lt hn
  have hcv : ∀ q, q < nl → lobt sx q = 0 → (locv H wt tk nl (loCT H wt tk nl) sx) q < 1000000000 := fun q hq hb => by
    have hs := losb_in hn hsa hset hq hb
    have h1 := loCT_b (tk := tk) hn hH hw hs.2
    have h2 := hw q hq
    have h3 : (locv H wt tk nl (loCT H wt tk nl) sx) q ≤ 1000 * wt q + loCT H wt tk nl (losb sx q) := lomn_le hH
    omega
  intro j
  induction j with
  | zero =>
    intro k cl t0 hj g0 e0 hf hv h0 h1 h2 h3 h4
    have hst := lostp_le (s := sx) (tk := tk) nl (fun q hq => (ht q hq).2)
    have kn0 := (e0 224 5 (by first | decide | omega)).trans kn
    have hk : k = nl := by omega
    rw [hk] at hf hv
    refine gx_ld (i := 4) (d := 0) (v := .inl k) rfl (fun _ => rfl) h4 rfl rfl ?_
    refine gx_ld (i := 1) (d := 2) (v := gx_r 224) rfl (fun _ => rfl) h1 rfl rfl ?_
    refine gxo_get (a := 224) rfl g0 rfl rfl kn0 rfl ?_
    refine gx_2t (c := .ge) rfl (by first | decide | omega) (by first | decide | omega) (show nl ≤ k from by omega) rfl ?_
    refine ex_ret (r := (none, t0, n, 0)) rfl (fun _ => rfl) ?_
    exact hQ t0 g0 e0 hf hv
  | succ j ih =>
    intro k cl t0 hj g0 e0 hf hv h0 h1 h2 h3 h4
    have hst := lostp_le (s := sx) (tk := tk) nl (fun q hq => (ht q hq).2)
    have kn0 := (e0 224 5 (by first | decide | omega)).trans kn
    have hwi := lowb_in (locv H wt tk nl (loCT H wt tk nl) sx) sx k
    refine gx_ld (i := 4) (d := 0) (v := .inl k) rfl (fun _ => rfl) h4 rfl rfl ?_
    refine gx_ld (i := 1) (d := 2) (v := gx_r 224) rfl (fun _ => rfl) h1 rfl rfl ?_
    refine gxo_get (a := 224) rfl g0 rfl rfl kn0 rfl ?_
    refine gx_2f (c := .ge) rfl (by first | decide | omega) (by first | decide | omega) (show ¬ (nl ≤ k) from by omega) rfl ?_
    refine gx_ld (i := 2) (d := 0) (v := .inl sx) rfl (fun _ => rfl) h2 rfl rfl ?_
    refine gx_ld (i := 4) (d := 0) (v := .inl k) rfl (fun _ => rfl) h4 rfl rfl ?_
    refine ex_go (S := (71, cl, [.inl ((nI sx >>> (nI k &&& 31)).toBitVec.toNat)], t0, n, 0)) rfl (fun _ => rfl) rfl ?_
    refine ex_go (S := (72, cl, [.inl 1, .inl ((nI sx >>> (nI k &&& 31)).toBitVec.toNat)], t0, n, 0)) rfl (fun _ => rfl) rfl ?_
    refine ex_go (S := (73, cl, [.inl ((nI ((nI sx >>> (nI k &&& 31)).toBitVec.toNat) &&& nI 1).toBitVec.toNat)], t0, n, 0)) rfl (fun _ => rfl) rfl ?_
    rw [gx_lobt (by first | decide | omega) (by first | decide | omega)]
    have hbt := lobt_le sx k
    by_cases hc1 : lobt sx k ≠ 0
    · refine gx_1t (c := .ne) rfl (by first | decide | omega) hc1 rfl ?_
      refine gx_incS (i := 4) (a := k) (x := 1) rfl (fun _ => rfl) h4 (by first | decide | omega) rfl (fun l2 hl2 ml2 => ?_)
      have l2_0 : en_ld l2 0 = some (gx_r 144) := ml2 0 _ h0 rfl
      have l2_1 : en_ld l2 1 = some (gx_r 224) := ml2 1 _ h1 rfl
      have l2_2 : en_ld l2 2 = some (.inl sx) := ml2 2 _ h2 rfl
      have l2_3 : en_ld l2 3 = some (.inl (lostp sx tk nl)) := ml2 3 _ h3 rfl
      refine ex_go (S := (58, l2, [], t0, n, 0)) rfl (fun _ => rfl) rfl ?_
      have hn9 := lowb_n (g := locv H wt tk nl (loCT H wt tk nl) sx) (s := sx) (k := k) (fun z => by omega)
      exact ih (k + 1) _ t0 (by first | decide | omega) g0 (fun c i h => e0 c i h) (by rw [hn9.1]; exact hf) (by rw [hn9.2]; exact hv) l2_0 l2_1 l2_2 l2_3 hl2
    · refine gx_1f (c := .ne) rfl (by first | decide | omega) hc1 rfl ?_
      refine gx_ld (i := 0) (d := 2) (v := gx_r 144) rfl (fun _ => rfl) h0 rfl rfl ?_
      refine gx_ld (i := 1) (d := 2) (v := gx_r 224) rfl (fun _ => rfl) h1 rfl rfl ?_
      refine gx_ld (i := 4) (d := 0) (v := .inl k) rfl (fun _ => rfl) h4 rfl rfl ?_
      refine gx_ld (i := 0) (d := 2) (v := gx_r 144) rfl (fun _ => rfl) h0 rfl rfl ?_
      refine gxo_ref (a := 144) (c := 190) rfl g0 rfl rfl rfl rfl rfl ?_
      refine gx_ld (i := 2) (d := 0) (v := .inl sx) rfl (fun _ => rfl) h2 rfl rfl ?_
      refine ex_go (S := (86, cl, [.inl 1, .inl sx, gx_r 190, .inl k, gx_r 224, gx_r 144], t0, n, 0)) rfl (fun _ => rfl) rfl ?_
      refine gx_ld (i := 4) (d := 0) (v := .inl k) rfl (fun _ => rfl) h4 rfl rfl ?_
      refine ex_go (S := (89, cl, [.inl ((nI 1 <<< (nI k &&& 31)).toBitVec.toNat), .inl sx, gx_r 190, .inl k, gx_r 224, gx_r 144], t0, n, 0)) rfl (fun _ => rfl) rfl ?_
      refine ex_go (S := (90, cl, [.inl ((nI sx ||| nI ((nI 1 <<< (nI k &&& 31)).toBitVec.toNat)).toBitVec.toNat), gx_r 190, .inl k, gx_r 224, gx_r 144], t0, n, 0)) rfl (fun _ => rfl) rfl ?_
      rw [gx_losb (by first | decide | omega) (by first | decide | omega)]
      have hb0 : lobt sx k = 0 := by omega
      have hs9 := losb_in hn hsa hset (show k < nl by omega) hb0
      have hcb := loCT_b (tk := tk) hn hH hw hs9.2
      refine gx_ag (v := .inl (loCT H wt tk nl (losb sx k))) (cb := fun c => Nat.beq c 0) rfl (fun _ => rfl) g0 rfl rfl ((e0 190 (losb sx k) (by first | decide | omega)).trans (kC _ hs9.1 hs9.2)) (by first | decide | omega) rfl ?_
      refine gx_ld (i := 3) (d := 0) (v := .inl (lostp sx tk nl)) rfl (fun _ => rfl) h3 rfl rfl ?_
      have hl9 := lostp_one (s := sx) (tk := tk) (x := k) nl (fun q hq => (ht q hq).2) (by first | decide | omega) hb0
      have hw1 := hw k (by first | decide | omega)
      have ht1 := ht k (by first | decide | omega)
      obtain ⟨_, r3, rfl⟩ := pc_lmean224 d n (x := k) (w9 := wt k) (t9 := tk k) (c := loCT H wt tk nl (losb sx k)) (st := lostp sx tk nl) (H := H) g0 (by first | decide | omega) ((e0 226 k (by first | decide | omega)).trans (kw k (by first | decide | omega))) hw1 ((e0 227 k (by first | decide | omega)).trans (kt k (by first | decide | omega))) ht1.2 (by first | decide | omega) (fun i hi => (e0 189 i (by first | decide | omega)).trans (hK i hi)) hH hcb
      have hg9 : lomn H (lostp sx tk nl) (tk k) (1000 * wt k + loCT H wt tk nl (losb sx k)) = locv H wt tk nl (loCT H wt tk nl) sx k := rfl
      rw [hg9] at r3
      have hcv9 := hcv k (by first | decide | omega) hb0
      refine gx_callo (a := 144) rfl rfl g0 rfl rfl rfl r3 rfl ?_
      show en_ex _ _ _ _ (95, cl, [.inl (locv H wt tk nl (loCT H wt tk nl) sx k)], t0, n, 0) _
      refine gx_sto (i := 5) (d := 0) rfl (fun _ => rfl) rfl rfl (fun l4 hl4 ml4 => ?_)
      have l4_0 : en_ld l4 0 = some (gx_r 144) := ml4 0 _ h0 rfl
      have l4_1 : en_ld l4 1 = some (gx_r 224) := ml4 1 _ h1 rfl
      have l4_2 : en_ld l4 2 = some (.inl sx) := ml4 2 _ h2 rfl
      have l4_3 : en_ld l4 3 = some (.inl (lostp sx tk nl)) := ml4 3 _ h3 rfl
      have l4_4 : en_ld l4 4 = some (.inl k) := ml4 4 _ h4 rfl
      refine gx_ld (i := 0) (d := 2) (v := gx_r 144) rfl (fun _ => rfl) l4_0 rfl rfl ?_
      refine gxo_get (a := 144) rfl g0 rfl rfl hf rfl ?_
      refine ex_go (S := (102, l4, [.inl 4294967295, .inl (lowb (locv H wt tk nl (loCT H wt tk nl) sx) sx k)], t0, n, 0)) rfl (fun _ => rfl) rfl ?_
      rcases hwi with hwi | ⟨hwi1, hwi2⟩
      · rw [hwi]
        refine ex_go (S := (116, l4, [], t0, n, 0)) rfl (fun _ => rfl) rfl ?_
        refine gx_ld (i := 0) (d := 2) (v := gx_r 144) rfl (fun _ => rfl) l4_0 rfl rfl ?_
        refine gx_ld (i := 4) (d := 0) (v := .inl k) rfl (fun _ => rfl) l4_4 rfl rfl ?_
        refine gxo_put (a := 144) rfl g0 rfl rfl rfl (ai_in_h (by first | decide | omega) (by first | decide | omega) (by first | decide | omega)) rfl (fun t105 g105 k105 e105 => ?_)
        have k6 : ai_hv t105 224 5 = some (.inl nl) := (e105 224 5 (by first | decide | omega)).trans kn0
        have k7 : ai_hv t105 190 sx = some (.inl (lowv (locv H wt tk nl (loCT H wt tk nl) sx) sx k)) := (e105 190 sx (by first | decide | omega)).trans hv
        have k8 : ai_hv t105 190 (losb sx k) = some (.inl (loCT H wt tk nl (losb sx k))) := (e105 190 (losb sx k) (by first | decide | omega)).trans ((e0 190 (losb sx k) (by first | decide | omega)).trans (kC _ hs9.1 hs9.2))
        refine gx_ld (i := 0) (d := 2) (v := gx_r 144) rfl (fun _ => rfl) l4_0 rfl rfl ?_
        refine gxo_ref (a := 144) (c := 190) rfl g105 rfl rfl rfl rfl rfl ?_
        refine gx_ld (i := 2) (d := 0) (v := .inl sx) rfl (fun _ => rfl) l4_2 rfl rfl ?_
        refine gx_ld (i := 5) (d := 0) (v := .inl (locv H wt tk nl (loCT H wt tk nl) sx k)) rfl (fun _ => rfl) hl4 rfl rfl ?_
        refine gx_ap rfl (fun _ => rfl) g105 rfl rfl rfl (show sx < 64 from by omega) (gx_run1 (show sx < 64 from by omega)) (gx_full (by first | decide | omega)) rfl (fun t109 g109 k109 e109 => ?_)
        have k10 : ai_hv t109 224 5 = some (.inl nl) := (e109 224 5 (by first | decide | omega)).trans k6
        have k11 : ai_hv t109 190 (losb sx k) = some (.inl (loCT H wt tk nl (losb sx k))) := (e109 190 (losb sx k) (by first | decide | omega)).trans k8
        have k12 : ai_hv t109 144 2 = some (.inl k) := (e109 144 2 (by first | decide | omega)).trans k105
        refine gx_incS (i := 4) (a := k) (x := 1) rfl (fun _ => rfl) l4_4 (by first | decide | omega) rfl (fun l13 hl13 ml13 => ?_)
        have l13_0 : en_ld l13 0 = some (gx_r 144) := ml13 0 _ l4_0 rfl
        have l13_1 : en_ld l13 1 = some (gx_r 224) := ml13 1 _ l4_1 rfl
        have l13_2 : en_ld l13 2 = some (.inl sx) := ml13 2 _ l4_2 rfl
        have l13_3 : en_ld l13 3 = some (.inl (lostp sx tk nl)) := ml13 3 _ l4_3 rfl
        have l13_5 : en_ld l13 5 = some (.inl (locv H wt tk nl (loCT H wt tk nl) sx k)) := ml13 5 _ hl4 rfl
        refine ex_go (S := (58, l13, [], t109, n, 0)) rfl (fun _ => rfl) rfl ?_
        have hn9 := lowb_k (g := locv H wt tk nl (loCT H wt tk nl) sx) (s := sx) (k := k) ⟨hb0, Or.inl hwi⟩ (by first | decide | omega)
        exact ih (k + 1) _ t109 (by first | decide | omega) g109 (fun c i h => ((e109 c i (by first | decide | omega)).trans (e105 c i (by first | decide | omega))).trans (e0 c i h)) (by rw [hn9.1]; exact (e109 144 2 (by first | decide | omega)).trans k105) (by rw [hn9.2]; exact k109) l13_0 l13_1 l13_2 l13_3 hl13
      · refine gx_2mf (c := .eq) rfl (by first | decide | omega) rfl rfl ?_
        refine gx_ld (i := 5) (d := 0) (v := .inl (locv H wt tk nl (loCT H wt tk nl) sx k)) rfl (fun _ => rfl) hl4 rfl rfl ?_
        refine gx_ld (i := 0) (d := 2) (v := gx_r 144) rfl (fun _ => rfl) l4_0 rfl rfl ?_
        refine gxo_ref (a := 144) (c := 190) rfl g0 rfl rfl rfl rfl rfl ?_
        refine gx_ld (i := 2) (d := 0) (v := .inl sx) rfl (fun _ => rfl) l4_2 rfl rfl ?_
        refine gx_ag (v := .inl (lowv (locv H wt tk nl (loCT H wt tk nl) sx) sx k)) (cb := fun c => Nat.beq c 0) rfl (fun _ => rfl) g0 rfl rfl hv (by first | decide | omega) rfl ?_
        have hlv : lowv (locv H wt tk nl (loCT H wt tk nl) sx) sx k < 1000000000 := by
          rw [lowv_s (by first | decide | omega)]
          exact hcv _ (by first | decide | omega) hwi2
        by_cases hle9 : locv H wt tk nl (loCT H wt tk nl) sx k ≤ lowv (locv H wt tk nl (loCT H wt tk nl) sx) sx k
        · refine gx_2t (c := .le) rfl (by first | decide | omega) (by first | decide | omega) hle9 rfl ?_
          refine gx_incS (i := 4) (a := k) (x := 1) rfl (fun _ => rfl) l4_4 (by first | decide | omega) rfl (fun l14 hl14 ml14 => ?_)
          have l14_0 : en_ld l14 0 = some (gx_r 144) := ml14 0 _ l4_0 rfl
          have l14_1 : en_ld l14 1 = some (gx_r 224) := ml14 1 _ l4_1 rfl
          have l14_2 : en_ld l14 2 = some (.inl sx) := ml14 2 _ l4_2 rfl
          have l14_3 : en_ld l14 3 = some (.inl (lostp sx tk nl)) := ml14 3 _ l4_3 rfl
          have l14_5 : en_ld l14 5 = some (.inl (locv H wt tk nl (loCT H wt tk nl) sx k)) := ml14 5 _ hl4 rfl
          refine ex_go (S := (58, l14, [], t0, n, 0)) rfl (fun _ => rfl) rfl ?_
          have hn9 := lowb_n (g := locv H wt tk nl (loCT H wt tk nl) sx) (s := sx) (k := k) (fun z => by
            rw [lowv_s (by first | decide | omega)] at hle9
            rcases z.2 with z | z <;> omega)
          exact ih (k + 1) _ t0 (by first | decide | omega) g0 (fun c i h => e0 c i h) (by rw [hn9.1]; exact hf) (by rw [hn9.2]; exact hv) l14_0 l14_1 l14_2 l14_3 hl14
        · refine gx_2f (c := .le) rfl (by first | decide | omega) (by first | decide | omega) hle9 rfl ?_
          refine gx_ld (i := 0) (d := 2) (v := gx_r 144) rfl (fun _ => rfl) l4_0 rfl rfl ?_
          refine gx_ld (i := 4) (d := 0) (v := .inl k) rfl (fun _ => rfl) l4_4 rfl rfl ?_
          refine gxo_put (a := 144) rfl g0 rfl rfl rfl (ai_in_h (by first | decide | omega) (by first | decide | omega) (by first | decide | omega)) rfl (fun t115 g115 k115 e115 => ?_)
          have k16 : ai_hv t115 224 5 = some (.inl nl) := (e115 224 5 (by first | decide | omega)).trans kn0
          have k17 : ai_hv t115 190 sx = some (.inl (lowv (locv H wt tk nl (loCT H wt tk nl) sx) sx k)) := (e115 190 sx (by first | decide | omega)).trans hv
          have k18 : ai_hv t115 190 (losb sx k) = some (.inl (loCT H wt tk nl (losb sx k))) := (e115 190 (losb sx k) (by first | decide | omega)).trans ((e0 190 (losb sx k) (by first | decide | omega)).trans (kC _ hs9.1 hs9.2))
          refine gx_ld (i := 0) (d := 2) (v := gx_r 144) rfl (fun _ => rfl) l4_0 rfl rfl ?_
          refine gxo_ref (a := 144) (c := 190) rfl g115 rfl rfl rfl rfl rfl ?_
          refine gx_ld (i := 2) (d := 0) (v := .inl sx) rfl (fun _ => rfl) l4_2 rfl rfl ?_
          refine gx_ld (i := 5) (d := 0) (v := .inl (locv H wt tk nl (loCT H wt tk nl) sx k)) rfl (fun _ => rfl) hl4 rfl rfl ?_
          refine gx_ap rfl (fun _ => rfl) g115 rfl rfl rfl (show sx < 64 from by omega) (gx_run1 (show sx < 64 from by omega)) (gx_full (by first | decide | omega)) rfl (fun t119 g119 k119 e119 => ?_)
          have k20 : ai_hv t119 224 5 = some (.inl nl) := (e119 224 5 (by first | decide | omega)).trans k16
          have k21 : ai_hv t119 190 (losb sx k) = some (.inl (loCT H wt tk nl (losb sx k))) := (e119 190 (losb sx k) (by first | decide | omega)).trans k18
          have k22 : ai_hv t119 144 2 = some (.inl k) := (e119 144 2 (by first | decide | omega)).trans k115
          refine gx_incS (i := 4) (a := k) (x := 1) rfl (fun _ => rfl) l4_4 (by first | decide | omega) rfl (fun l23 hl23 ml23 => ?_)
          have l23_0 : en_ld l23 0 = some (gx_r 144) := ml23 0 _ l4_0 rfl
          have l23_1 : en_ld l23 1 = some (gx_r 224) := ml23 1 _ l4_1 rfl
          have l23_2 : en_ld l23 2 = some (.inl sx) := ml23 2 _ l4_2 rfl
          have l23_3 : en_ld l23 3 = some (.inl (lostp sx tk nl)) := ml23 3 _ l4_3 rfl
          have l23_5 : en_ld l23 5 = some (.inl (locv H wt tk nl (loCT H wt tk nl) sx k)) := ml23 5 _ hl4 rfl
          refine ex_go (S := (58, l23, [], t119, n, 0)) rfl (fun _ => rfl) rfl ?_
          have hn9 := lowb_k (g := locv H wt tk nl (loCT H wt tk nl) sx) (s := sx) (k := k) ⟨hb0, Or.inr (by
            rw [lowv_s (by first | decide | omega)] at hle9
            omega)⟩ (by first | decide | omega)
          exact ih (k + 1) _ t119 (by first | decide | omega) g119 (fun c i h => ((e119 c i (by first | decide | omega)).trans (e115 c i (by first | decide | omega))).trans (e0 c i h)) (by rw [hn9.1]; exact (e119 144 2 (by first | decide | omega)).trans k115) (by rw [hn9.2]; exact k119) l23_0 l23_1 l23_2 l23_3 hl23
theorem pc_fload224 (d n : Nat) {tb : en_H} {nl sx : Nat} {wt tk H : Nat → Nat} (g0 : ai_HG ah_G tb) (kn : ai_hv tb 224 5 = some (.inl nl)) (hn : nl ≤ 6) (kw : ∀ k, k < nl → ai_hv tb 226 k = some (.inl (wt k))) (hw : ∀ k, k < nl → wt k ≤ 999) (kt : ∀ k, k < nl → ai_hv tb 227 k = some (.inl (tk k))) (ht : ∀ k, k < nl → 0 ≤ tk k ∧ tk k ≤ 9) (hset : sx < 64) (hsa : sx ≤ loal nl) (hK : (∀ i, i < 54 → ai_hv tb 189 i = some (.inl (H i)))) (hH : ∀ i, H i ≤ 10) (kC : ∀ s, sx < s → s ≤ loal nl → ai_hv tb 190 s = some (.inl (loCT H wt tk nl s))) : ∃ r, en_u (d + 2) 220 [gx_r 144, gx_r 224, .inl sx] tb n = some r ∧ ∃ t', r = (none, t', n, 0) ∧ ai_HG ah_G t' ∧ (∀ c i, ¬ ((c = 144 ∧ i = 2) ∨ (c = 190 ∧ i = sx)) → ai_hv t' c i = ai_hv tb c i) ∧ ai_hv t' 144 2 = some (.inl (lowb (locv H wt tk nl (loCT H wt tk nl) sx) sx nl)) ∧ ai_hv t' 190 sx = some (.inl (loCT H wt tk nl sx)) := by
  refine en_u_ex (d := d + 1) rfl ?_
  show en_ex _ _ _ _ (0, [(0, gx_r 144), (1, gx_r 224), (2, .inl sx)], [], tb, n, 0) _
  refine ex_go (S := (1, [(0, gx_r 144), (1, gx_r 224), (2, .inl sx)], [.inl 0], tb, n, 0)) rfl (fun _ => rfl) rfl ?_
  refine ex_go (S := (2, [(3, .inl 0), (0, gx_r 144), (1, gx_r 224), (2, .inl sx)], [], tb, n, 0)) rfl (fun _ => rfl) rfl ?_
  refine ex_go (S := (3, [(3, .inl 0), (0, gx_r 144), (1, gx_r 224), (2, .inl sx)], [.inl 0], tb, n, 0)) rfl (fun _ => rfl) rfl ?_
  refine ex_go (S := (5, [(4, .inl 0), (3, .inl 0), (0, gx_r 144), (1, gx_r 224), (2, .inl sx)], [], tb, n, 0)) rfl (fun _ => rfl) rfl ?_
  refine pc_fload224_a g0 kn hn kw hw kt ht hset (fun cl h0 h1 h2 h3 => ?_) nl 0 _ (by first | decide | omega) rfl rfl rfl rfl rfl
  refine gx_ld (i := 0) (d := 2) (v := gx_r 144) rfl (fun _ => rfl) h0 rfl rfl ?_
  refine ex_go (S := (45, cl, [.inl 4294967295, gx_r 144], tb, n, 0)) rfl (fun _ => rfl) rfl ?_
  refine gxo_put (a := 144) rfl g0 rfl rfl rfl ⟨_, rfl, by decide, by decide, by decide⟩ rfl (fun t101 g101 k101 e101 => ?_)
  refine gx_ld (i := 0) (d := 2) (v := gx_r 144) rfl (fun _ => rfl) h0 rfl rfl ?_
  refine gxo_ref (a := 144) (c := 190) rfl g101 rfl rfl rfl rfl rfl ?_
  refine gx_ld (i := 2) (d := 0) (v := .inl sx) rfl (fun _ => rfl) h2 rfl rfl ?_
  refine ex_go (S := (54, cl, [.inl 0, .inl sx, gx_r 190], t101, n, 0)) rfl (fun _ => rfl) rfl ?_
  refine gx_ap rfl (fun _ => rfl) g101 rfl rfl rfl (show sx < 64 from by omega) (gx_run1 (show sx < 64 from by omega)) (gx_full (by first | decide | omega)) rfl (fun t102 g102 k102 e102 => ?_)
  have k3 : ai_hv t102 144 2 = some (.inl 4294967295) := (e102 144 2 (by first | decide | omega)).trans k101
  refine ex_go (S := (56, cl, [.inl 0], t102, n, 0)) rfl (fun _ => rfl) rfl ?_
  refine gx_sto (i := 4) (d := 0) rfl (fun _ => rfl) rfl rfl (fun l4 hl4 ml4 => ?_)
  have l4_0 : en_ld l4 0 = some (gx_r 144) := ml4 0 _ h0 rfl
  have l4_1 : en_ld l4 1 = some (gx_r 224) := ml4 1 _ h1 rfl
  have l4_2 : en_ld l4 2 = some (.inl sx) := ml4 2 _ h2 rfl
  have l4_3 : en_ld l4 3 = some (.inl (lostp sx tk nl)) := ml4 3 _ h3 rfl
  refine pc_fload224_b d n (tb := t102) (H := H) (((e102 224 5 (by first | decide | omega)).trans (e101 224 5 (by first | decide | omega))).trans kn) hn (fun q hq => ((e102 226 q (by first | decide | omega)).trans (e101 226 q (by first | decide | omega))).trans (kw q hq)) hw (fun q hq => ((e102 227 q (by first | decide | omega)).trans (e101 227 q (by first | decide | omega))).trans (kt q hq)) ht hset hsa (fun i hi => ((e102 189 i (by first | decide | omega)).trans (e101 189 i (by first | decide | omega))).trans (hK i hi)) hH (fun s a1 a2 => ((e102 190 s (by first | decide | omega)).trans (e101 190 s (by first | decide | omega))).trans (kC s a1 a2)) (fun t1 g1 e1 h7 h8 => ⟨_, rfl, t1, rfl, g1, (fun c i h => (e1 c i h).trans ((e102 c i (by first | decide | omega)).trans (e101 c i (by first | decide | omega)))), h7, h8.trans (by rw [loCT_v hn hsa])⟩) nl 0 _ t102 (by first | decide | omega) g102 (fun _ _ _ => rfl) ((e102 144 2 (by first | decide | omega)).trans k101) k102 l4_0 l4_1 l4_2 l4_3 hl4
theorem pc_floads191_a (d n : Nat) {tb : en_H} {L : List Nat} {Q : en_O → Prop} (kb : ai_hv tb 236 2 = some (.inl L.length)) (hs : L.length ≤ 1000) (hc : cco tb 236 0 L) (hv : ∀ z, z ∈ L → ∃ fh, vo fh z) (hr : hrun 25 L 0 = some 1) (hQ : ∀ cl t1, ai_HG ah_G t1 → (∀ c i, ¬ (c = 189 ∨ c = 237) → ai_hv t1 c i = ai_hv tb c i) → (∀ i, i < 54 → ai_hv t1 189 i = some (.inl (10 - lowx L i))) → en_ld cl 0 = some (gx_r 144) → en_ld cl 1 = some (gx_r 191) → en_ex none (en_u (d + 3)) (en_code 158) (fun _ => false) (35, cl, [], t1, n, 0) Q) : ∀ j k cl t0, k + j = 54 → ai_HG ah_G t0 → (∀ c i, ¬ (c = 189 ∨ c = 237) → ai_hv t0 c i = ai_hv tb c i) → (∀ i, i < k → ai_hv t0 189 i = some (.inl (10 - lowx L i))) → en_ld cl 0 = some (gx_r 144) → en_ld cl 1 = some (gx_r 191) → en_ld cl 2 = some (.inl k) → en_ex none (en_u (d + 3)) (en_code 158) (fun _ => false) (2, cl, [], t0, n, 0) Q := by
  intro j
  induction j with
  | zero =>
    intro k cl t0 hj g0 e0 hI h0 h1 h2
    have hk : k = 54 := by omega
    rw [hk] at hI
    refine gx_ld (i := 2) (d := 0) (v := .inl k) rfl (fun _ => rfl) h2 rfl rfl ?_
    refine ex_go (S := (5, cl, [.inl 54, .inl k], t0, n, 0)) rfl (fun _ => rfl) rfl ?_
    refine gx_2t (c := .ge) rfl (by first | decide | omega) (by first | decide | omega) (show 54 ≤ k from by omega) rfl ?_
    exact hQ _ t0 g0 e0 hI h0 h1
  | succ j ih =>
    intro k cl t0 hj g0 e0 hI h0 h1 h2
    refine gx_ld (i := 2) (d := 0) (v := .inl k) rfl (fun _ => rfl) h2 rfl rfl ?_
    refine ex_go (S := (5, cl, [.inl 54, .inl k], t0, n, 0)) rfl (fun _ => rfl) rfl ?_
    refine gx_2f (c := .ge) rfl (by first | decide | omega) (by first | decide | omega) (show ¬ (54 ≤ k) from by omega) rfl ?_
    refine gx_ld (i := 0) (d := 2) (v := gx_r 144) rfl (fun _ => rfl) h0 rfl rfl ?_
    refine gxo_ref (a := 144) (c := 189) rfl g0 rfl rfl rfl rfl rfl ?_
    refine gx_ld (i := 2) (d := 0) (v := .inl k) rfl (fun _ => rfl) h2 rfl rfl ?_
    refine ex_go (S := (15, cl, [.inl 10, .inl k, gx_r 189], t0, n, 0)) rfl (fun _ => rfl) rfl ?_
    refine gx_ld (i := 1) (d := 2) (v := gx_r 191) rfl (fun _ => rfl) h1 rfl rfl ?_
    refine gxo_ref (a := 191) (c := 236) rfl g0 rfl rfl rfl rfl rfl ?_
    refine ex_go (S := (21, cl, [.inl 10, gx_r 236, .inl 10, .inl k, gx_r 189], t0, n, 0)) rfl (fun _ => rfl) rfl ?_
    refine ex_go (S := (22, cl, [.inl 0, .inl 10, gx_r 236, .inl 10, .inl k, gx_r 189], t0, n, 0)) rfl (fun _ => rfl) rfl ?_
    refine gx_ld (i := 2) (d := 0) (v := .inl k) rfl (fun _ => rfl) h2 rfl rfl ?_
    refine ex_go (S := (24, cl, [.inl 0, .inl k, .inl 0, .inl 10, gx_r 236, .inl 10, .inl k, gx_r 189], t0, n, 0)) rfl (fun _ => rfl) rfl ?_
    obtain ⟨_, r101, v101, t101, rfl, hv101, vb101, g101, e101⟩ := pc_value236 (d + 1) n (mo := 10) (me := 0) (ti := k) (ou := 0) (L := L) g0 (by decide) (by decide) (by first | decide | omega) (by decide) ((e0 236 2 (by first | decide | omega)).trans kb) hs (cco_keep (fun i => e0 238 i (by first | decide | omega)) hc) hv hr
    have hw9 : vcl 10 v101 = lowx L k := by unfold lowx; rw [hv101]; rfl
    rw [hw9] at r101
    have hx9 := lowx_le (L := L) (i := k)
    refine gx_callo (a := 236) rfl rfl g0 rfl rfl rfl r101 rfl ?_
    show en_ex _ _ _ _ (27, cl, [.inl (lowx L k), .inl 10, .inl k, gx_r 189], t101, n, 0) _
    refine gx_isub rfl (by first | decide | omega) (by first | decide | omega) rfl ?_
    refine gx_ap rfl (fun _ => rfl) g101 rfl rfl rfl (show k < 54 from by omega) (gx_run1 (show k < 54 from by omega)) (gx_full (by first | decide | omega)) rfl (fun t102 g102 k102 e102 => ?_)
    refine gx_incS (i := 2) (a := k) (x := 1) rfl (fun _ => rfl) h2 (by first | decide | omega) rfl (fun l3 hl3 ml3 => ?_)
    have l3_0 : en_ld l3 0 = some (gx_r 144) := ml3 0 _ h0 rfl
    have l3_1 : en_ld l3 1 = some (gx_r 191) := ml3 1 _ h1 rfl
    refine ex_go (S := (2, l3, [], t102, n, 0)) rfl (fun _ => rfl) rfl ?_
    have hI2 : (∀ i, i < k + 1 → ai_hv t102 189 i = some (.inl (10 - lowx L i))) := fun i hi => by
      by_cases e9 : i = k
      · rw [e9]; exact k102
      · exact ((e102 189 i (by first | decide | omega)).trans (e101 189 i (by first | decide | omega))).trans (hI i (by first | decide | omega))
    exact ih (k + 1) _ t102 (by first | decide | omega) g102 (fun c i h => ((e102 c i (by first | decide | omega)).trans (e101 c i (by first | decide | omega))).trans (e0 c i h)) hI2 l3_0 l3_1 hl3
theorem pc_floads191_b (d n : Nat) {tb : en_H} {nl : Nat} {wt tk H : Nat → Nat} {Q : en_O → Prop} (kn : ai_hv tb 224 5 = some (.inl nl)) (hn : nl ≤ 6) (kw : ∀ k, k < nl → ai_hv tb 226 k = some (.inl (wt k))) (hw : ∀ k, k < nl → wt k ≤ 999) (kt : ∀ k, k < nl → ai_hv tb 227 k = some (.inl (tk k))) (ht : ∀ k, k < nl → 0 ≤ tk k ∧ tk k ≤ 9) (hK : (∀ i, i < 54 → ai_hv tb 189 i = some (.inl (H i)))) (hH : ∀ i, H i ≤ 10) (hQ : ∀ t1, ai_HG ah_G t1 → (∀ c i, ¬ ((c = 144 ∧ i = 2) ∨ c = 190) → ai_hv t1 c i = ai_hv tb c i) → (∀ s, 0 ≤ s → s ≤ loal nl → ai_hv t1 190 s = some (.inl (loCT H wt tk nl s))) → ai_hv t1 144 2 = some (.inl (lowb (locv H wt tk nl (loCT H wt tk nl) 0) 0 nl)) → Q (.inl (none, t1, n, 0))) : ∀ m cl t0, m ≤ loal nl + 1 → ai_HG ah_G t0 → (∀ c i, ¬ ((c = 144 ∧ i = 2) ∨ c = 190) → ai_hv t0 c i = ai_hv tb c i) → (∀ s, m ≤ s → s ≤ loal nl → ai_hv t0 190 s = some (.inl (loCT H wt tk nl s))) → (m = 0 → ai_hv t0 144 2 = some (.inl (lowb (locv H wt tk nl (loCT H wt tk nl) 0) 0 nl))) → en_ld cl 0 = some (gx_r 144) → en_ld cl 1 = some (gx_r 191) → en_ld cl 2 = some (.inl (gz m)) → en_ex none (en_u (d + 3)) (en_code 158) (fun _ => false) (47, cl, [], t0, n, 0) Q := by
  have hal := loal_lt hn
  intro m
  induction m with
  | zero =>
    intro cl t0 hm g0 e0 hC hf h0 h1 h2
    refine gx_ld (i := 2) (d := 0) (v := .inl 4294967295) rfl (fun _ => rfl) h2 rfl rfl ?_
    refine ex_go (S := (66, cl, [], t0, n, 0)) rfl (fun _ => rfl) rfl ?_
    refine ex_ret (r := (none, t0, n, 0)) rfl (fun _ => rfl) ?_
    exact hQ t0 g0 e0 hC (hf rfl)
  | succ m ih =>
    intro cl t0 hm g0 e0 hC hf h0 h1 h2
    refine gx_ld (i := 2) (d := 0) (v := .inl m) rfl (fun _ => rfl) h2 rfl rfl ?_
    refine gx_1f (c := .lt) rfl (by first | decide | omega) (show ¬ (m < 0) from by omega) rfl ?_
    refine gx_ld (i := 0) (d := 2) (v := gx_r 144) rfl (fun _ => rfl) h0 rfl rfl ?_
    refine gx_ld (i := 1) (d := 2) (v := gx_r 191) rfl (fun _ => rfl) h1 rfl rfl ?_
    refine gxo_ref (a := 191) (c := 224) rfl g0 rfl rfl rfl rfl rfl ?_
    refine gx_ld (i := 2) (d := 0) (v := .inl m) rfl (fun _ => rfl) h2 rfl rfl ?_
    obtain ⟨_, r101, t101, rfl, g101, e101, kf101, kv101⟩ := pc_fload224 (d + 1) n (tb := t0) (sx := m) (H := H) g0 ((e0 224 5 (by first | decide | omega)).trans kn) hn (fun q hq => (e0 226 q (by first | decide | omega)).trans (kw q hq)) hw (fun q hq => (e0 227 q (by first | decide | omega)).trans (kt q hq)) ht (by first | decide | omega) (by first | decide | omega) (fun i hi => (e0 189 i (by first | decide | omega)).trans (hK i hi)) hH (fun s a1 a2 => hC s (by first | decide | omega) a2)
    refine gx_callo (a := 144) rfl rfl g0 rfl rfl rfl r101 rfl ?_
    show en_ex _ _ _ _ (60, cl, [], t101, n, 0) _
    refine gx_decz (i := 2) (a := m) rfl (fun _ => rfl) h2 (by first | decide | omega) rfl (fun l2 hl2 ml2 => ?_)
    have l2_0 : en_ld l2 0 = some (gx_r 144) := ml2 0 _ h0 rfl
    have l2_1 : en_ld l2 1 = some (gx_r 191) := ml2 1 _ h1 rfl
    refine ex_go (S := (47, l2, [], t101, n, 0)) rfl (fun _ => rfl) rfl ?_
    have hC2 : (∀ s, m ≤ s → s ≤ loal nl → ai_hv t101 190 s = some (.inl (loCT H wt tk nl s))) := fun s a1 a2 => by
      by_cases e9 : s = m
      · rw [e9]; exact kv101
      · exact (e101 190 s (by first | decide | omega)).trans (hC s (by first | decide | omega) a2)
    exact ih _ t101 (by first | decide | omega) g101 (fun c i h => (e101 c i (by first | decide | omega)).trans (e0 c i (by first | decide | omega))) hC2 (fun z => by subst z; exact kf101) l2_0 l2_1 hl2
theorem pc_floads191 (d n : Nat) {t0 : en_H} {nl : Nat} {wt tk : Nat → Nat} {L : List Nat} (g0 : ai_HG ah_G t0) (kn : ai_hv t0 224 5 = some (.inl nl)) (hn : nl ≤ 6) (kw : ∀ k, k < nl → ai_hv t0 226 k = some (.inl (wt k))) (hw : ∀ k, k < nl → wt k ≤ 999) (kt : ∀ k, k < nl → ai_hv t0 227 k = some (.inl (tk k))) (ht : ∀ k, k < nl → 0 ≤ tk k ∧ tk k ≤ 9) (kb : ai_hv t0 236 2 = some (.inl L.length)) (hs : L.length ≤ 1000) (hc : cco t0 236 0 L) (hv : ∀ z, z ∈ L → ∃ fh, vo fh z) (hr : hrun 25 L 0 = some 1) : ∃ r, en_u (d + 4) 158 [gx_r 144, gx_r 191] t0 n = some r ∧ ∃ t', r = (none, t', n, 0) ∧ ai_HG ah_G t' ∧ (∀ c i, ¬ ((c = 144 ∧ i = 2) ∨ c = 190 ∨ c = 189 ∨ c = 237) → ai_hv t' c i = ai_hv t0 c i) ∧ ai_hv t' 190 0 = some (.inl (loCT (fun i => 10 - lowx L i) wt tk nl 0)) ∧ ai_hv t' 144 2 = some (.inl (lowb (locv (fun i => 10 - lowx L i) wt tk nl (loCT (fun i => 10 - lowx L i) wt tk nl) 0) 0 nl)) := by
  have hal := loal_lt hn
  refine en_u_ex (d := d + 3) rfl ?_
  show en_ex _ _ _ _ (0, [(0, gx_r 144), (1, gx_r 191)], [], t0, n, 0) _
  refine ex_go (S := (1, [(0, gx_r 144), (1, gx_r 191)], [.inl 0], t0, n, 0)) rfl (fun _ => rfl) rfl ?_
  refine ex_go (S := (2, [(2, .inl 0), (0, gx_r 144), (1, gx_r 191)], [], t0, n, 0)) rfl (fun _ => rfl) rfl ?_
  refine pc_floads191_a d n (tb := t0) kb hs hc hv hr (fun cl ty gy ey hIy h0 h1 => ?_) 54 0 _ t0 (by first | decide | omega) g0 (fun _ _ _ => rfl) (fun i hi => absurd hi (Nat.not_lt_zero i)) rfl rfl rfl
  have kny := (ey 224 5 (by first | decide | omega)).trans kn
  refine ex_go (S := (36, cl, [.inl 1], ty, n, 0)) rfl (fun _ => rfl) rfl ?_
  refine gx_ld (i := 1) (d := 2) (v := gx_r 191) rfl (fun _ => rfl) h1 rfl rfl ?_
  refine gxo_ref (a := 191) (c := 224) rfl gy rfl rfl rfl rfl rfl ?_
  refine gxo_get (a := 224) rfl gy rfl rfl kny rfl ?_
  refine ex_go (S := (44, cl, [.inl ((nI 1 <<< (nI nl &&& 31)).toBitVec.toNat)], ty, n, 0)) rfl (fun _ => rfl) rfl ?_
  refine ex_go (S := (45, cl, [.inl 1, .inl ((nI 1 <<< (nI nl &&& 31)).toBitVec.toNat)], ty, n, 0)) rfl (fun _ => rfl) rfl ?_
  refine ex_go (S := (46, cl, [.inl ((nI ((nI 1 <<< (nI nl &&& 31)).toBitVec.toNat) - nI 1).toBitVec.toNat)], ty, n, 0)) rfl (fun _ => rfl) rfl ?_
  rw [gx_loal (by first | decide | omega)]
  refine gx_sto (i := 2) (d := 0) rfl (fun _ => rfl) rfl rfl (fun l1 hl1 ml1 => ?_)
  have l1_0 : en_ld l1 0 = some (gx_r 144) := ml1 0 _ h0 rfl
  have l1_1 : en_ld l1 1 = some (gx_r 191) := ml1 1 _ h1 rfl
  exact pc_floads191_b d n (tb := ty) (H := (fun i => 10 - lowx L i)) kny hn (fun q hq => (ey 226 q (by first | decide | omega)).trans (kw q hq)) hw (fun q hq => (ey 227 q (by first | decide | omega)).trans (kt q hq)) ht hIy (fun i => Nat.sub_le _ _) (fun t1 g1 e1 h7 h8 => ⟨_, rfl, t1, rfl, g1, (fun c i h => (e1 c i (by first | decide | omega)).trans (ey c i (by first | decide | omega))), h7 0 (Nat.le_refl _) (Nat.zero_le _), h8⟩) (loal nl + 1) _ ty (Nat.le_refl _) gy (fun _ _ _ => rfl) (fun s a1 a2 => absurd a2 (by first | decide | omega)) (fun z => absurd z (by first | decide | omega)) l1_0 l1_1 hl1
theorem pc_carry191 (d n : Nat) {t0 : en_H} {nl wh : Nat} {wt tk : Nat → Nat} {L : List Nat} (g0 : ai_HG ah_G t0) (kp : ai_hv t0 0 10 = some (gx_r 191)) (kn : ai_hv t0 224 5 = some (.inl nl)) (hn : nl ≤ 6) (kw : ∀ k, k < nl → ai_hv t0 226 k = some (.inl (wt k))) (hw : ∀ k, k < nl → wt k ≤ 999) (kt : ∀ k, k < nl → ai_hv t0 227 k = some (.inl (tk k))) (ht : ∀ k, k < nl → 0 ≤ tk k ∧ tk k ≤ 9) (kb : ai_hv t0 236 2 = some (.inl L.length)) (hs : L.length ≤ 1000) (hc : cco t0 236 0 L) (hv : ∀ z, z ∈ L → ∃ fh, vo fh z) (hr : hrun 25 L 0 = some 1) (hwh : wh < 4294967296) : ∃ r, en_u (d + 5) 79 [gx_r 0, .inl wh] t0 n = some r ∧ ∃ v t', r = (some (.inl v), t', n, 0) ∧ ai_HG ah_G t' ∧ (∀ c i, ¬ ((c = 144 ∧ i = 2) ∨ c = 190 ∨ c = 189 ∨ c = 237) → ai_hv t' c i = ai_hv t0 c i) ∧ (¬ wh ≤ 1 → v = 4294967294) ∧ (wh ≤ 1 → v = carv L wt tk nl wh) := by
  have hH : ∀ i, (fun i => 10 - lowx L i) i ≤ 10 := fun i => Nat.sub_le _ _
  have hb9 := loCT_b (tk := tk) (s := 0) hn hH hw (Nat.zero_le _)
  refine en_u_ex (d := d + 4) rfl ?_
  show en_ex _ _ _ _ (0, [(0, gx_r 0), (1, .inl wh)], [], t0, n, 0) _
  refine ex_go (S := (1, [(0, gx_r 0), (1, .inl wh)], [.inl wh], t0, n, 0)) rfl (fun _ => rfl) rfl ?_
  refine ex_go (S := (2, [(0, gx_r 0), (1, .inl wh)], [.inl 0, .inl wh], t0, n, 0)) rfl (fun _ => rfl) rfl ?_
  refine ex_go (S := (3, [(0, gx_r 0), (1, .inl wh)], [.inl 1, .inl 0, .inl wh], t0, n, 0)) rfl (fun _ => rfl) rfl ?_
  obtain ⟨_, r1, b2, rfl, b2b, q3⟩ := pz_isWithin (d + 3) n (t0 := t0) (x := wh) (lo := 0) (hi := 1) (by first | decide | omega) (by first | decide | omega) (by first | decide | omega)
  refine ex_stat rfl rfl rfl rfl rfl r1 (Nat.le_refl _) rfl ?_
  show en_ex _ _ _ _ (6, [(0, gx_r 0), (1, .inl wh)], [.inl b2], t0, n, 0) _
  by_cases hc4 : b2 ≠ 0
  · refine gx_1t (c := .ne) rfl (by first | decide | omega) hc4 rfl ?_
    refine ex_go (S := (13, [(0, gx_r 0), (1, .inl wh)], [gx_r 0], t0, n, 0)) rfl (fun _ => rfl) rfl ?_
    refine gxo_ref (a := 0) (c := 144) rfl g0 rfl rfl rfl rfl rfl ?_
    refine ex_go (S := (17, [(0, gx_r 0), (1, .inl wh)], [gx_r 0, gx_r 144], t0, n, 0)) rfl (fun _ => rfl) rfl ?_
    refine gxo_get (a := 0) rfl g0 rfl rfl kp rfl ?_
    obtain ⟨_, r105, t105, rfl, g105, e105, kw105, kf105⟩ := pc_floads191 d n g0 kn hn kw hw kt ht kb hs hc hv hr
    refine gx_callo (a := 144) rfl rfl g0 rfl rfl rfl r105 rfl ?_
    show en_ex _ _ _ _ (23, [(0, gx_r 0), (1, .inl wh)], [], t105, n, 0) _
    refine ex_go (S := (24, [(0, gx_r 0), (1, .inl wh)], [.inl wh], t105, n, 0)) rfl (fun _ => rfl) rfl ?_
    by_cases hc6 : wh ≠ 0
    · refine gx_1t (c := .ne) rfl (by first | decide | omega) hc6 rfl ?_
      refine ex_go (S := (39, [(0, gx_r 0), (1, .inl wh)], [gx_r 0], t105, n, 0)) rfl (fun _ => rfl) rfl ?_
      refine gxo_ref (a := 0) (c := 144) rfl g105 rfl rfl rfl rfl rfl ?_
      refine gxo_get (a := 144) rfl g105 rfl rfl kf105 rfl ?_
      refine ex_ret (r := (some (.inl (lowb (locv (fun i => 10 - lowx L i) wt tk nl (loCT (fun i => 10 - lowx L i) wt tk nl) 0) 0 nl)), t105, n, 0)) rfl (fun _ => rfl) ?_
      exact ⟨_, rfl, _, t105, rfl, g105, (fun c i h => e105 c i (by first | decide | omega)), fun z => absurd z (by first | decide | omega), fun _ => (if_neg (by first | decide | omega)).symm⟩
    · refine gx_1f (c := .ne) rfl (by first | decide | omega) hc6 rfl ?_
      refine ex_go (S := (28, [(0, gx_r 0), (1, .inl wh)], [gx_r 0], t105, n, 0)) rfl (fun _ => rfl) rfl ?_
      refine gxo_ref (a := 0) (c := 144) rfl g105 rfl rfl rfl rfl rfl ?_
      refine ex_go (S := (32, [(0, gx_r 0), (1, .inl wh)], [.inl 0, gx_r 144], t105, n, 0)) rfl (fun _ => rfl) rfl ?_
      obtain ⟨_, r7, rfl⟩ := pc_loadWorth (d + 3) n (f := 0) g105 (by decide) kw105
      refine gx_callo (a := 144) rfl rfl g105 rfl rfl rfl r7 rfl ?_
      show en_ex _ _ _ _ (35, [(0, gx_r 0), (1, .inl wh)], [.inl (loCT (fun i => 10 - lowx L i) wt tk nl 0)], t105, n, 0) _
      refine ex_go (S := (45, [(0, gx_r 0), (1, .inl wh)], [.inl (loCT (fun i => 10 - lowx L i) wt tk nl 0)], t105, n, 0)) rfl (fun _ => rfl) rfl ?_
      refine ex_ret (r := (some (.inl (loCT (fun i => 10 - lowx L i) wt tk nl 0)), t105, n, 0)) rfl (fun _ => rfl) ?_
      exact ⟨_, rfl, _, t105, rfl, g105, (fun c i h => e105 c i (by first | decide | omega)), fun z => absurd z (by first | decide | omega), fun _ => (if_pos (by first | decide | omega)).symm⟩
  · refine gx_1f (c := .ne) rfl (by first | decide | omega) hc4 rfl ?_
    refine ex_go (S := (11, [(0, gx_r 0), (1, .inl wh)], [.inl 4294967294], t0, n, 0)) rfl (fun _ => rfl) rfl ?_
    refine ex_ret (r := (some (.inl 4294967294), t0, n, 0)) rfl (fun _ => rfl) ?_
    exact ⟨_, rfl, _, t0, rfl, g0, (fun c i h => rfl), fun _ => rfl, fun z => absurd z (by first | decide | omega)⟩
theorem pc_lmean290_l {fn : en_F} {n : Nat} {t0 : en_H} {x w9 t9 c st : Nat} {H : Nat → Nat} {Q : en_O → Prop} (g0 : ai_HG ah_G t0) (hx : x < 6) (k1 : ai_hv t0 292 x = some (.inl w9)) (hw9 : w9 ≤ 999) (k2 : ai_hv t0 293 x = some (.inl t9)) (ht9 : t9 ≤ 9) (hst : st + t9 ≤ 54) (hK : (∀ i, i < 54 → ai_hv t0 189 i = some (.inl (H i)))) (hH : ∀ i, H i ≤ 10) (hQ : ∀ cl, en_ld cl 1 = some (gx_r 290) → en_ld cl 2 = some (.inl x) → en_ld cl 3 = some (.inl c) → en_ld cl 5 = some (.inr (.inl (lohp H st t9))) → en_ld cl 7 = some (.inr (.inl (10 ^ t9))) → en_ex none fn (en_code 259) (fun _ => false) (60, cl, [], t0, n, 0) Q) : ∀ j k cl, k + j = t9 → en_ld cl 0 = some (gx_r 144) → en_ld cl 1 = some (gx_r 290) → en_ld cl 2 = some (.inl x) → en_ld cl 3 = some (.inl c) → en_ld cl 4 = some (.inl st) → en_ld cl 5 = some (.inr (.inl (lohp H st k))) → en_ld cl 7 = some (.inr (.inl (10 ^ k))) → en_ld cl 9 = some (.inl k) → en_ex none fn (en_code 259) (fun _ => false) (9, cl, [], t0, n, 0) Q := by
  intro j
  induction j with
  | zero =>
    intro k cl hj h0 h1 h2 h3 h4 h5 h7 h9
    have hk : k = t9 := by omega
    rw [hk] at h5 h7
    refine gx_ld (i := 9) (d := 0) (v := .inl k) rfl (fun _ => rfl) h9 rfl rfl ?_
    refine gx_ld (i := 1) (d := 2) (v := gx_r 290) rfl (fun _ => rfl) h1 rfl rfl ?_
    refine gxo_ref (a := 290) (c := 293) rfl g0 rfl rfl rfl rfl rfl ?_
    refine gx_ld (i := 2) (d := 0) (v := .inl x) rfl (fun _ => rfl) h2 rfl rfl ?_
    refine gx_ag (v := .inl t9) (cb := fun c => Nat.beq c 0) rfl (fun _ => rfl) g0 rfl rfl k2 (by first | decide | omega) rfl ?_
    refine gx_2t (c := .ge) rfl (by first | decide | omega) (by first | decide | omega) (show t9 ≤ k from by omega) rfl ?_
    exact hQ _ h1 h2 h3 h5 h7
  | succ j ih =>
    intro k cl hj h0 h1 h2 h3 h4 h5 h7 h9
    have hp1 := lohp_le hH st k
    have hp2 := lop10_le (show k ≤ 9 by omega)
    have hp4 : lohp H st k * H (st + k) ≤ 1000000000 * 10 := Nat.mul_le_mul (Nat.le_trans hp1 hp2) (hH _)
    refine gx_ld (i := 9) (d := 0) (v := .inl k) rfl (fun _ => rfl) h9 rfl rfl ?_
    refine gx_ld (i := 1) (d := 2) (v := gx_r 290) rfl (fun _ => rfl) h1 rfl rfl ?_
    refine gxo_ref (a := 290) (c := 293) rfl g0 rfl rfl rfl rfl rfl ?_
    refine gx_ld (i := 2) (d := 0) (v := .inl x) rfl (fun _ => rfl) h2 rfl rfl ?_
    refine gx_ag (v := .inl t9) (cb := fun c => Nat.beq c 0) rfl (fun _ => rfl) g0 rfl rfl k2 (by first | decide | omega) rfl ?_
    refine gx_2f (c := .ge) rfl (by first | decide | omega) (by first | decide | omega) (show ¬ (t9 ≤ k) from by omega) rfl ?_
    refine gx_ld (i := 4) (d := 0) (v := .inl st) rfl (fun _ => rfl) h4 rfl rfl ?_
    refine gx_ld (i := 9) (d := 0) (v := .inl k) rfl (fun _ => rfl) h9 rfl rfl ?_
    refine ex_iadd rfl (by first | decide | omega) rfl ?_
    refine ex_go (S := (27, cl, [.inl 54, .inl (st + k)], t0, n, 0)) rfl (fun _ => rfl) rfl ?_
    refine gx_2f (c := .ge) rfl (by first | decide | omega) (by first | decide | omega) (show ¬ (54 ≤ st + k) from by omega) rfl ?_
    refine gx_ld (i := 5) (d := 1) (v := .inr (.inl (lohp H st k))) rfl (fun _ => rfl) h5 rfl rfl ?_
    refine gx_ld (i := 0) (d := 2) (v := gx_r 144) rfl (fun _ => rfl) h0 rfl rfl ?_
    refine gxo_ref (a := 144) (c := 189) rfl g0 rfl rfl rfl rfl rfl ?_
    refine gx_ld (i := 4) (d := 0) (v := .inl st) rfl (fun _ => rfl) h4 rfl rfl ?_
    refine gx_ld (i := 9) (d := 0) (v := .inl k) rfl (fun _ => rfl) h9 rfl rfl ?_
    refine ex_iadd rfl (by first | decide | omega) rfl ?_
    have hh9 := hH (st + k)
    refine gx_ag (v := .inl (H (st + k))) (cb := fun c => Nat.beq c 0) rfl (fun _ => rfl) g0 rfl rfl (hK (st + k) (by first | decide | omega)) (by first | decide | omega) rfl ?_
    refine ex_go (S := (43, cl, [.inr (.inl ((nI (H (st + k))).toInt64.toBitVec.toNat)), .inr (.inl (lohp H st k))], t0, n, 0)) rfl (fun _ => rfl) rfl ?_
    rw [sp_i2l (show H (st + k) < 2147483648 from by omega)]
    refine ex_go (S := (44, cl, [.inr (.inl ((lN (lohp H st k) * lN (H (st + k))).toBitVec.toNat))], t0, n, 0)) rfl (fun _ => rfl) rfl ?_
    rw [sp_lmul (show (lohp H st k) * (H (st + k)) < 18446744073709551616 from by omega)]
    refine gx_sto (i := 5) (d := 1) rfl (fun _ => rfl) rfl rfl (fun l1 hl1 ml1 => ?_)
    have l1_0 : en_ld l1 0 = some (gx_r 144) := ml1 0 _ h0 rfl
    have l1_1 : en_ld l1 1 = some (gx_r 290) := ml1 1 _ h1 rfl
    have l1_2 : en_ld l1 2 = some (.inl x) := ml1 2 _ h2 rfl
    have l1_3 : en_ld l1 3 = some (.inl c) := ml1 3 _ h3 rfl
    have l1_4 : en_ld l1 4 = some (.inl st) := ml1 4 _ h4 rfl
    have l1_7 : en_ld l1 7 = some (.inr (.inl (10 ^ k))) := ml1 7 _ h7 rfl
    have l1_9 : en_ld l1 9 = some (.inl k) := ml1 9 _ h9 rfl
    refine gx_ld (i := 7) (d := 1) (v := .inr (.inl (10 ^ k))) rfl (fun _ => rfl) l1_7 rfl rfl ?_
    refine ex_go (S := (51, l1, [.inr (.inl 10), .inr (.inl (10 ^ k))], t0, n, 0)) rfl (fun _ => rfl) rfl ?_
    refine ex_go (S := (52, l1, [.inr (.inl ((lN (10 ^ k) * lN 10).toBitVec.toNat))], t0, n, 0)) rfl (fun _ => rfl) rfl ?_
    rw [sp_lmul (show (10 ^ k) * 10 < 18446744073709551616 from by omega)]
    refine gx_sto (i := 7) (d := 1) rfl (fun _ => rfl) rfl rfl (fun l2 hl2 ml2 => ?_)
    have l2_0 : en_ld l2 0 = some (gx_r 144) := ml2 0 _ l1_0 rfl
    have l2_1 : en_ld l2 1 = some (gx_r 290) := ml2 1 _ l1_1 rfl
    have l2_2 : en_ld l2 2 = some (.inl x) := ml2 2 _ l1_2 rfl
    have l2_3 : en_ld l2 3 = some (.inl c) := ml2 3 _ l1_3 rfl
    have l2_4 : en_ld l2 4 = some (.inl st) := ml2 4 _ l1_4 rfl
    have l2_9 : en_ld l2 9 = some (.inl k) := ml2 9 _ l1_9 rfl
    have l2_5 : en_ld l2 5 = some (.inr (.inl ((lohp H st k) * (H (st + k))))) := ml2 5 _ hl1 rfl
    refine gx_incS (i := 9) (a := k) (x := 1) rfl (fun _ => rfl) l2_9 (by first | decide | omega) rfl (fun l3 hl3 ml3 => ?_)
    have l3_0 : en_ld l3 0 = some (gx_r 144) := ml3 0 _ l2_0 rfl
    have l3_1 : en_ld l3 1 = some (gx_r 290) := ml3 1 _ l2_1 rfl
    have l3_2 : en_ld l3 2 = some (.inl x) := ml3 2 _ l2_2 rfl
    have l3_3 : en_ld l3 3 = some (.inl c) := ml3 3 _ l2_3 rfl
    have l3_4 : en_ld l3 4 = some (.inl st) := ml3 4 _ l2_4 rfl
    have l3_5 : en_ld l3 5 = some (.inr (.inl ((lohp H st k) * (H (st + k))))) := ml3 5 _ l2_5 rfl
    have l3_7 : en_ld l3 7 = some (.inr (.inl ((10 ^ k) * 10))) := ml3 7 _ hl2 rfl
    refine ex_go (S := (9, l3, [], t0, n, 0)) rfl (fun _ => rfl) rfl ?_
    exact ih (k + 1) _ (by first | decide | omega) l3_0 l3_1 l3_2 l3_3 l3_4 l3_5 (by rw [Nat.pow_succ]; exact l3_7) hl3
theorem pc_lmean290 (d n : Nat) {t0 : en_H} {x w9 t9 c st : Nat} {H : Nat → Nat} (g0 : ai_HG ah_G t0) (hx : x < 6) (k1 : ai_hv t0 292 x = some (.inl w9)) (hw9 : w9 ≤ 999) (k2 : ai_hv t0 293 x = some (.inl t9)) (ht9 : t9 ≤ 9) (hst : st + t9 ≤ 54) (hK : (∀ i, i < 54 → ai_hv t0 189 i = some (.inl (H i)))) (hH : ∀ i, H i ≤ 10) (hc : c ≤ 62937000) : ∃ r, en_u (d + 1) 259 [gx_r 144, gx_r 290, .inl x, .inl c, .inl st] t0 n = some r ∧ r = (some (.inl (lomn H st t9 (1000 * w9 + c))), t0, n, 0) := by
  refine en_u_ex rfl ?_
  show en_ex _ _ _ _ (0, [(0, gx_r 144), (1, gx_r 290), (2, .inl x), (3, .inl c), (4, .inl st)], [], t0, n, 0) _
  refine ex_go (S := (1, [(0, gx_r 144), (1, gx_r 290), (2, .inl x), (3, .inl c), (4, .inl st)], [.inr (.inl 1)], t0, n, 0)) rfl (fun _ => rfl) rfl ?_
  refine ex_go (S := (3, [(5, .inr (.inl 1)), (0, gx_r 144), (1, gx_r 290), (2, .inl x), (3, .inl c), (4, .inl st)], [], t0, n, 0)) rfl (fun _ => rfl) rfl ?_
  refine ex_go (S := (4, [(5, .inr (.inl 1)), (0, gx_r 144), (1, gx_r 290), (2, .inl x), (3, .inl c), (4, .inl st)], [.inr (.inl 1)], t0, n, 0)) rfl (fun _ => rfl) rfl ?_
  refine ex_go (S := (6, [(7, .inr (.inl 1)), (5, .inr (.inl 1)), (0, gx_r 144), (1, gx_r 290), (2, .inl x), (3, .inl c), (4, .inl st)], [], t0, n, 0)) rfl (fun _ => rfl) rfl ?_
  refine ex_go (S := (7, [(7, .inr (.inl 1)), (5, .inr (.inl 1)), (0, gx_r 144), (1, gx_r 290), (2, .inl x), (3, .inl c), (4, .inl st)], [.inl 0], t0, n, 0)) rfl (fun _ => rfl) rfl ?_
  refine ex_go (S := (9, [(9, .inl 0), (7, .inr (.inl 1)), (5, .inr (.inl 1)), (0, gx_r 144), (1, gx_r 290), (2, .inl x), (3, .inl c), (4, .inl st)], [], t0, n, 0)) rfl (fun _ => rfl) rfl ?_
  refine pc_lmean290_l g0 hx k1 hw9 k2 ht9 hst hK hH (c := c) (fun cl h1 h2 h3 h5 h7 => ?_) t9 0 _ (by first | decide | omega) rfl rfl rfl rfl rfl rfl rfl rfl
  have hp1 := lohp_le hH st t9
  have hp2 := lop10_le ht9
  have hp0 := lop10_pos t9
  have hp3 : (w9 * 1000 + c) * lohp H st t9 ≤ 63936000 * 1000000000 := Nat.mul_le_mul (by first | decide | omega) (Nat.le_trans hp1 hp2)
  have hm9 := lomn_le hH (s := st) (k := t9) (v := 1000 * w9 + c)
  refine gx_ld (i := 1) (d := 2) (v := gx_r 290) rfl (fun _ => rfl) h1 rfl rfl ?_
  refine gxo_ref (a := 290) (c := 292) rfl g0 rfl rfl rfl rfl rfl ?_
  refine gx_ld (i := 2) (d := 0) (v := .inl x) rfl (fun _ => rfl) h2 rfl rfl ?_
  refine gx_ag (v := .inl w9) (cb := fun c => Nat.beq c 0) rfl (fun _ => rfl) g0 rfl rfl k1 (by first | decide | omega) rfl ?_
  refine ex_go (S := (67, cl, [.inr (.inl ((nI w9).toInt64.toBitVec.toNat))], t0, n, 0)) rfl (fun _ => rfl) rfl ?_
  rw [sp_i2l (show w9 < 2147483648 from by omega)]
  refine ex_go (S := (70, cl, [.inr (.inl 1000), .inr (.inl w9)], t0, n, 0)) rfl (fun _ => rfl) rfl ?_
  refine ex_go (S := (71, cl, [.inr (.inl ((lN w9 * lN 1000).toBitVec.toNat))], t0, n, 0)) rfl (fun _ => rfl) rfl ?_
  rw [sp_lmul (show w9 * 1000 < 18446744073709551616 from by omega)]
  refine gx_ld (i := 3) (d := 0) (v := .inl c) rfl (fun _ => rfl) h3 rfl rfl ?_
  refine ex_go (S := (73, cl, [.inr (.inl ((nI c).toInt64.toBitVec.toNat)), .inr (.inl (w9 * 1000))], t0, n, 0)) rfl (fun _ => rfl) rfl ?_
  rw [sp_i2l (show c < 2147483648 from by omega)]
  refine ex_go (S := (74, cl, [.inr (.inl ((lN (w9 * 1000) + lN c).toBitVec.toNat))], t0, n, 0)) rfl (fun _ => rfl) rfl ?_
  rw [sp_ladd (show (w9 * 1000) + c < 18446744073709551616 from by omega)]
  refine gx_ld (i := 5) (d := 1) (v := .inr (.inl (lohp H st t9))) rfl (fun _ => rfl) h5 rfl rfl ?_
  refine ex_go (S := (77, cl, [.inr (.inl ((lN ((w9 * 1000) + c) * lN (lohp H st t9)).toBitVec.toNat))], t0, n, 0)) rfl (fun _ => rfl) rfl ?_
  rw [sp_lmul (show ((w9 * 1000) + c) * (lohp H st t9) < 18446744073709551616 from by omega)]
  refine gx_ld (i := 7) (d := 1) (v := .inr (.inl (10 ^ t9))) rfl (fun _ => rfl) h7 rfl rfl ?_
  refine gx_ldivn rfl (by first | decide | omega) (by first | decide | omega) (by first | decide | omega) rfl ?_
  have hme : (w9 * 1000 + c) * lohp H st t9 / 10 ^ t9 = lomn H st t9 (1000 * w9 + c) := by rw [Nat.mul_comm w9 1000]; rfl
  rw [show (((w9 * 1000) + c) * (lohp H st t9)) / (10 ^ t9) = lomn H st t9 (1000 * w9 + c) from hme]
  show en_ex _ _ _ _ (80, cl, [.inr (.inl (lomn H st t9 (1000 * w9 + c)))], t0, n, 0) _
  refine ex_go (S := (81, cl, [.inl ((lN (lomn H st t9 (1000 * w9 + c))).toInt32.toBitVec.toNat)], t0, n, 0)) rfl (fun _ => rfl) rfl ?_
  rw [zk_l2i (show lomn H st t9 (1000 * w9 + c) < 2147483648 from by omega)]
  refine ex_ret (r := (some (.inl (lomn H st t9 (1000 * w9 + c))), t0, n, 0)) rfl (fun _ => rfl) ?_
  exact ⟨_, rfl, rfl⟩
theorem pc_fload290_a {fn : en_F} {n : Nat} {tb : en_H} {nl sx : Nat} {wt tk : Nat → Nat} {Q : en_O → Prop} (gb : ai_HG ah_G tb) (kn : ai_hv tb 290 5 = some (.inl nl)) (hn : nl ≤ 6) (kw : ∀ k, k < nl → ai_hv tb 292 k = some (.inl (wt k))) (hw : ∀ k, k < nl → wt k ≤ 999) (kt : ∀ k, k < nl → ai_hv tb 293 k = some (.inl (tk k))) (ht : ∀ k, k < nl → 0 ≤ tk k ∧ tk k ≤ 9) (hset : sx < 64) (hQ : ∀ cl, en_ld cl 0 = some (gx_r 144) → en_ld cl 1 = some (gx_r 290) → en_ld cl 2 = some (.inl sx) → en_ld cl 3 = some (.inl (lostp sx tk nl)) → en_ex none fn (en_code 220) (fun _ => false) (43, cl, [], tb, n, 0) Q) : ∀ j k cl, k + j = nl → en_ld cl 0 = some (gx_r 144) → en_ld cl 1 = some (gx_r 290) → en_ld cl 2 = some (.inl sx) → en_ld cl 3 = some (.inl (lostp sx tk k)) → en_ld cl 4 = some (.inl k) → en_ex none fn (en_code 220) (fun _ => false) (5, cl, [], tb, n, 0) Q := by
  intro j
  induction j with
  | zero =>
    intro k cl hj h0 h1 h2 h3 h4
    have hst := lostp_le (s := sx) (tk := tk) k (fun q hq => (ht q (by first | decide | omega)).2)
    refine gx_ld (i := 4) (d := 0) (v := .inl k) rfl (fun _ => rfl) h4 rfl rfl ?_
    refine gx_ld (i := 1) (d := 2) (v := gx_r 290) rfl (fun _ => rfl) h1 rfl rfl ?_
    refine gxo_get (a := 290) rfl gb rfl rfl kn rfl ?_
    refine gx_2t (c := .ge) rfl (by first | decide | omega) (by first | decide | omega) (show nl ≤ k from by omega) rfl ?_
    have hk : k = nl := by omega
    rw [hk] at h3
    exact hQ _ h0 h1 h2 h3
  | succ j ih =>
    intro k cl hj h0 h1 h2 h3 h4
    have hst := lostp_le (s := sx) (tk := tk) k (fun q hq => (ht q (by first | decide | omega)).2)
    refine gx_ld (i := 4) (d := 0) (v := .inl k) rfl (fun _ => rfl) h4 rfl rfl ?_
    refine gx_ld (i := 1) (d := 2) (v := gx_r 290) rfl (fun _ => rfl) h1 rfl rfl ?_
    refine gxo_get (a := 290) rfl gb rfl rfl kn rfl ?_
    refine gx_2f (c := .ge) rfl (by first | decide | omega) (by first | decide | omega) (show ¬ (nl ≤ k) from by omega) rfl ?_
    refine gx_ld (i := 3) (d := 0) (v := .inl (lostp sx tk k)) rfl (fun _ => rfl) h3 rfl rfl ?_
    refine gx_ld (i := 2) (d := 0) (v := .inl sx) rfl (fun _ => rfl) h2 rfl rfl ?_
    refine gx_ld (i := 4) (d := 0) (v := .inl k) rfl (fun _ => rfl) h4 rfl rfl ?_
    refine ex_go (S := (19, cl, [.inl ((nI sx >>> (nI k &&& 31)).toBitVec.toNat), .inl (lostp sx tk k)], tb, n, 0)) rfl (fun _ => rfl) rfl ?_
    refine ex_go (S := (20, cl, [.inl 1, .inl ((nI sx >>> (nI k &&& 31)).toBitVec.toNat), .inl (lostp sx tk k)], tb, n, 0)) rfl (fun _ => rfl) rfl ?_
    refine ex_go (S := (21, cl, [.inl ((nI ((nI sx >>> (nI k &&& 31)).toBitVec.toNat) &&& nI 1).toBitVec.toNat), .inl (lostp sx tk k)], tb, n, 0)) rfl (fun _ => rfl) rfl ?_
    rw [gx_lobt (by first | decide | omega) (by first | decide | omega)]
    have hbt := lobt_le sx k
    by_cases hc1 : lobt sx k = 0
    · refine gx_1t (c := .eq) rfl (by first | decide | omega) hc1 rfl ?_
      refine ex_go (S := (35, cl, [.inl 0, .inl (lostp sx tk k)], tb, n, 0)) rfl (fun _ => rfl) rfl ?_
      refine ex_iadd rfl (by first | decide | omega) rfl ?_
      refine gx_sto (i := 3) (d := 0) rfl (fun _ => rfl) rfl rfl (fun l2 hl2 ml2 => ?_)
      have l2_0 : en_ld l2 0 = some (gx_r 144) := ml2 0 _ h0 rfl
      have l2_1 : en_ld l2 1 = some (gx_r 290) := ml2 1 _ h1 rfl
      have l2_2 : en_ld l2 2 = some (.inl sx) := ml2 2 _ h2 rfl
      have l2_4 : en_ld l2 4 = some (.inl k) := ml2 4 _ h4 rfl
      refine gx_incS (i := 4) (a := k) (x := 1) rfl (fun _ => rfl) l2_4 (by first | decide | omega) rfl (fun l3 hl3 ml3 => ?_)
      have l3_0 : en_ld l3 0 = some (gx_r 144) := ml3 0 _ l2_0 rfl
      have l3_1 : en_ld l3 1 = some (gx_r 290) := ml3 1 _ l2_1 rfl
      have l3_2 : en_ld l3 2 = some (.inl sx) := ml3 2 _ l2_2 rfl
      have l3_3 : en_ld l3 3 = some (.inl ((lostp sx tk k) + 0)) := ml3 3 _ hl2 rfl
      refine ex_go (S := (5, l3, [], tb, n, 0)) rfl (fun _ => rfl) rfl ?_
      exact ih (k + 1) _ (by first | decide | omega) l3_0 l3_1 l3_2 (by show _ = some (Sum.inl (lostp sx tk k + (if lobt sx k = 1 then tk k else 0))); rw [if_neg (by first | decide | omega)]; exact l3_3) hl3
    · refine gx_1f (c := .eq) rfl (by first | decide | omega) hc1 rfl ?_
      refine gx_ld (i := 1) (d := 2) (v := gx_r 290) rfl (fun _ => rfl) h1 rfl rfl ?_
      refine gxo_ref (a := 290) (c := 293) rfl gb rfl rfl rfl rfl rfl ?_
      refine gx_ld (i := 4) (d := 0) (v := .inl k) rfl (fun _ => rfl) h4 rfl rfl ?_
      have hk1 := ht k (by first | decide | omega)
      refine gx_ag (v := .inl (tk k)) (cb := fun c => Nat.beq c 0) rfl (fun _ => rfl) gb rfl rfl (kt k (by first | decide | omega)) (by first | decide | omega) rfl ?_
      refine ex_go (S := (35, cl, [.inl (tk k), .inl (lostp sx tk k)], tb, n, 0)) rfl (fun _ => rfl) rfl ?_
      refine ex_iadd rfl (by first | decide | omega) rfl ?_
      refine gx_sto (i := 3) (d := 0) rfl (fun _ => rfl) rfl rfl (fun l4 hl4 ml4 => ?_)
      have l4_0 : en_ld l4 0 = some (gx_r 144) := ml4 0 _ h0 rfl
      have l4_1 : en_ld l4 1 = some (gx_r 290) := ml4 1 _ h1 rfl
      have l4_2 : en_ld l4 2 = some (.inl sx) := ml4 2 _ h2 rfl
      have l4_4 : en_ld l4 4 = some (.inl k) := ml4 4 _ h4 rfl
      refine gx_incS (i := 4) (a := k) (x := 1) rfl (fun _ => rfl) l4_4 (by first | decide | omega) rfl (fun l5 hl5 ml5 => ?_)
      have l5_0 : en_ld l5 0 = some (gx_r 144) := ml5 0 _ l4_0 rfl
      have l5_1 : en_ld l5 1 = some (gx_r 290) := ml5 1 _ l4_1 rfl
      have l5_2 : en_ld l5 2 = some (.inl sx) := ml5 2 _ l4_2 rfl
      have l5_3 : en_ld l5 3 = some (.inl ((lostp sx tk k) + (tk k))) := ml5 3 _ hl4 rfl
      refine ex_go (S := (5, l5, [], tb, n, 0)) rfl (fun _ => rfl) rfl ?_
      exact ih (k + 1) _ (by first | decide | omega) l5_0 l5_1 l5_2 (by show _ = some (Sum.inl (lostp sx tk k + (if lobt sx k = 1 then tk k else 0))); rw [if_pos (by first | decide | omega)]; exact l5_3) hl5
theorem pc_fload290_b (d n : Nat) {tb : en_H} {nl sx : Nat} {wt tk H : Nat → Nat} {Q : en_O → Prop} (kn : ai_hv tb 290 5 = some (.inl nl)) (hn : nl ≤ 6) (kw : ∀ k, k < nl → ai_hv tb 292 k = some (.inl (wt k))) (hw : ∀ k, k < nl → wt k ≤ 999) (kt : ∀ k, k < nl → ai_hv tb 293 k = some (.inl (tk k))) (ht : ∀ k, k < nl → 0 ≤ tk k ∧ tk k ≤ 9) (hset : sx < 64) (hsa : sx ≤ loal nl) (hK : (∀ i, i < 54 → ai_hv tb 189 i = some (.inl (H i)))) (hH : ∀ i, H i ≤ 10) (kC : ∀ s, sx < s → s ≤ loal nl → ai_hv tb 190 s = some (.inl (loCT H wt tk nl s))) (hQ : ∀ t1, ai_HG ah_G t1 → (∀ c i, ¬ ((c = 144 ∧ i = 2) ∨ (c = 190 ∧ i = sx)) → ai_hv t1 c i = ai_hv tb c i) → ai_hv t1 144 2 = some (.inl (lowb (locv H wt tk nl (loCT H wt tk nl) sx) sx nl)) → ai_hv t1 190 sx = some (.inl (lowv (locv H wt tk nl (loCT H wt tk nl) sx) sx nl)) → Q (.inl (none, t1, n, 0))) : ∀ j k cl t0, k + j = nl → ai_HG ah_G t0 → (∀ c i, ¬ ((c = 144 ∧ i = 2) ∨ (c = 190 ∧ i = sx)) → ai_hv t0 c i = ai_hv tb c i) → ai_hv t0 144 2 = some (.inl (lowb (locv H wt tk nl (loCT H wt tk nl) sx) sx k)) → ai_hv t0 190 sx = some (.inl (lowv (locv H wt tk nl (loCT H wt tk nl) sx) sx k)) → en_ld cl 0 = some (gx_r 144) → en_ld cl 1 = some (gx_r 290) → en_ld cl 2 = some (.inl sx) → en_ld cl 3 = some (.inl (lostp sx tk nl)) → en_ld cl 4 = some (.inl k) → en_ex none (en_u (d + 1)) (en_code 220) (fun _ => false) (58, cl, [], t0, n, 0) Q := by
  have hal := loal_lt hn
  have hcv : ∀ q, q < nl → lobt sx q = 0 → (locv H wt tk nl (loCT H wt tk nl) sx) q < 1000000000 := fun q hq hb => by
    have hs := losb_in hn hsa hset hq hb
    have h1 := loCT_b (tk := tk) hn hH hw hs.2
    have h2 := hw q hq
    have h3 : (locv H wt tk nl (loCT H wt tk nl) sx) q ≤ 1000 * wt q + loCT H wt tk nl (losb sx q) := lomn_le hH
    omega
  intro j
  induction j with
  | zero =>
    intro k cl t0 hj g0 e0 hf hv h0 h1 h2 h3 h4
    have hst := lostp_le (s := sx) (tk := tk) nl (fun q hq => (ht q hq).2)
    have kn0 := (e0 290 5 (by first | decide | omega)).trans kn
    have hk : k = nl := by omega
    rw [hk] at hf hv
    refine gx_ld (i := 4) (d := 0) (v := .inl k) rfl (fun _ => rfl) h4 rfl rfl ?_
    refine gx_ld (i := 1) (d := 2) (v := gx_r 290) rfl (fun _ => rfl) h1 rfl rfl ?_
    refine gxo_get (a := 290) rfl g0 rfl rfl kn0 rfl ?_
    refine gx_2t (c := .ge) rfl (by first | decide | omega) (by first | decide | omega) (show nl ≤ k from by omega) rfl ?_
    refine ex_ret (r := (none, t0, n, 0)) rfl (fun _ => rfl) ?_
    exact hQ t0 g0 e0 hf hv
  | succ j ih =>
    intro k cl t0 hj g0 e0 hf hv h0 h1 h2 h3 h4
    have hst := lostp_le (s := sx) (tk := tk) nl (fun q hq => (ht q hq).2)
    have kn0 := (e0 290 5 (by first | decide | omega)).trans kn
    have hwi := lowb_in (locv H wt tk nl (loCT H wt tk nl) sx) sx k
    refine gx_ld (i := 4) (d := 0) (v := .inl k) rfl (fun _ => rfl) h4 rfl rfl ?_
    refine gx_ld (i := 1) (d := 2) (v := gx_r 290) rfl (fun _ => rfl) h1 rfl rfl ?_
    refine gxo_get (a := 290) rfl g0 rfl rfl kn0 rfl ?_
    refine gx_2f (c := .ge) rfl (by first | decide | omega) (by first | decide | omega) (show ¬ (nl ≤ k) from by omega) rfl ?_
    refine gx_ld (i := 2) (d := 0) (v := .inl sx) rfl (fun _ => rfl) h2 rfl rfl ?_
    refine gx_ld (i := 4) (d := 0) (v := .inl k) rfl (fun _ => rfl) h4 rfl rfl ?_
    refine ex_go (S := (71, cl, [.inl ((nI sx >>> (nI k &&& 31)).toBitVec.toNat)], t0, n, 0)) rfl (fun _ => rfl) rfl ?_
    refine ex_go (S := (72, cl, [.inl 1, .inl ((nI sx >>> (nI k &&& 31)).toBitVec.toNat)], t0, n, 0)) rfl (fun _ => rfl) rfl ?_
    refine ex_go (S := (73, cl, [.inl ((nI ((nI sx >>> (nI k &&& 31)).toBitVec.toNat) &&& nI 1).toBitVec.toNat)], t0, n, 0)) rfl (fun _ => rfl) rfl ?_
    rw [gx_lobt (by first | decide | omega) (by first | decide | omega)]
    have hbt := lobt_le sx k
    by_cases hc1 : lobt sx k ≠ 0
    · refine gx_1t (c := .ne) rfl (by first | decide | omega) hc1 rfl ?_
      refine gx_incS (i := 4) (a := k) (x := 1) rfl (fun _ => rfl) h4 (by first | decide | omega) rfl (fun l2 hl2 ml2 => ?_)
      have l2_0 : en_ld l2 0 = some (gx_r 144) := ml2 0 _ h0 rfl
      have l2_1 : en_ld l2 1 = some (gx_r 290) := ml2 1 _ h1 rfl
      have l2_2 : en_ld l2 2 = some (.inl sx) := ml2 2 _ h2 rfl
      have l2_3 : en_ld l2 3 = some (.inl (lostp sx tk nl)) := ml2 3 _ h3 rfl
      refine ex_go (S := (58, l2, [], t0, n, 0)) rfl (fun _ => rfl) rfl ?_
      have hn9 := lowb_n (g := locv H wt tk nl (loCT H wt tk nl) sx) (s := sx) (k := k) (fun z => by omega)
      exact ih (k + 1) _ t0 (by first | decide | omega) g0 (fun c i h => e0 c i h) (by rw [hn9.1]; exact hf) (by rw [hn9.2]; exact hv) l2_0 l2_1 l2_2 l2_3 hl2
    · refine gx_1f (c := .ne) rfl (by first | decide | omega) hc1 rfl ?_
      refine gx_ld (i := 0) (d := 2) (v := gx_r 144) rfl (fun _ => rfl) h0 rfl rfl ?_
      refine gx_ld (i := 1) (d := 2) (v := gx_r 290) rfl (fun _ => rfl) h1 rfl rfl ?_
      refine gx_ld (i := 4) (d := 0) (v := .inl k) rfl (fun _ => rfl) h4 rfl rfl ?_
      refine gx_ld (i := 0) (d := 2) (v := gx_r 144) rfl (fun _ => rfl) h0 rfl rfl ?_
      refine gxo_ref (a := 144) (c := 190) rfl g0 rfl rfl rfl rfl rfl ?_
      refine gx_ld (i := 2) (d := 0) (v := .inl sx) rfl (fun _ => rfl) h2 rfl rfl ?_
      refine ex_go (S := (86, cl, [.inl 1, .inl sx, gx_r 190, .inl k, gx_r 290, gx_r 144], t0, n, 0)) rfl (fun _ => rfl) rfl ?_
      refine gx_ld (i := 4) (d := 0) (v := .inl k) rfl (fun _ => rfl) h4 rfl rfl ?_
      refine ex_go (S := (89, cl, [.inl ((nI 1 <<< (nI k &&& 31)).toBitVec.toNat), .inl sx, gx_r 190, .inl k, gx_r 290, gx_r 144], t0, n, 0)) rfl (fun _ => rfl) rfl ?_
      refine ex_go (S := (90, cl, [.inl ((nI sx ||| nI ((nI 1 <<< (nI k &&& 31)).toBitVec.toNat)).toBitVec.toNat), gx_r 190, .inl k, gx_r 290, gx_r 144], t0, n, 0)) rfl (fun _ => rfl) rfl ?_
      rw [gx_losb (by first | decide | omega) (by first | decide | omega)]
      have hb0 : lobt sx k = 0 := by omega
      have hs9 := losb_in hn hsa hset (show k < nl by omega) hb0
      have hcb := loCT_b (tk := tk) hn hH hw hs9.2
      refine gx_ag (v := .inl (loCT H wt tk nl (losb sx k))) (cb := fun c => Nat.beq c 0) rfl (fun _ => rfl) g0 rfl rfl ((e0 190 (losb sx k) (by first | decide | omega)).trans (kC _ hs9.1 hs9.2)) (by first | decide | omega) rfl ?_
      refine gx_ld (i := 3) (d := 0) (v := .inl (lostp sx tk nl)) rfl (fun _ => rfl) h3 rfl rfl ?_
      have hl9 := lostp_one (s := sx) (tk := tk) (x := k) nl (fun q hq => (ht q hq).2) (by first | decide | omega) hb0
      have hw1 := hw k (by first | decide | omega)
      have ht1 := ht k (by first | decide | omega)
      obtain ⟨_, r3, rfl⟩ := pc_lmean290 d n (x := k) (w9 := wt k) (t9 := tk k) (c := loCT H wt tk nl (losb sx k)) (st := lostp sx tk nl) (H := H) g0 (by first | decide | omega) ((e0 292 k (by first | decide | omega)).trans (kw k (by first | decide | omega))) hw1 ((e0 293 k (by first | decide | omega)).trans (kt k (by first | decide | omega))) ht1.2 (by first | decide | omega) (fun i hi => (e0 189 i (by first | decide | omega)).trans (hK i hi)) hH hcb
      have hg9 : lomn H (lostp sx tk nl) (tk k) (1000 * wt k + loCT H wt tk nl (losb sx k)) = locv H wt tk nl (loCT H wt tk nl) sx k := rfl
      rw [hg9] at r3
      have hcv9 := hcv k (by first | decide | omega) hb0
      refine gx_callo (a := 144) rfl rfl g0 rfl rfl rfl r3 rfl ?_
      show en_ex _ _ _ _ (95, cl, [.inl (locv H wt tk nl (loCT H wt tk nl) sx k)], t0, n, 0) _
      refine gx_sto (i := 5) (d := 0) rfl (fun _ => rfl) rfl rfl (fun l4 hl4 ml4 => ?_)
      have l4_0 : en_ld l4 0 = some (gx_r 144) := ml4 0 _ h0 rfl
      have l4_1 : en_ld l4 1 = some (gx_r 290) := ml4 1 _ h1 rfl
      have l4_2 : en_ld l4 2 = some (.inl sx) := ml4 2 _ h2 rfl
      have l4_3 : en_ld l4 3 = some (.inl (lostp sx tk nl)) := ml4 3 _ h3 rfl
      have l4_4 : en_ld l4 4 = some (.inl k) := ml4 4 _ h4 rfl
      refine gx_ld (i := 0) (d := 2) (v := gx_r 144) rfl (fun _ => rfl) l4_0 rfl rfl ?_
      refine gxo_get (a := 144) rfl g0 rfl rfl hf rfl ?_
      refine ex_go (S := (102, l4, [.inl 4294967295, .inl (lowb (locv H wt tk nl (loCT H wt tk nl) sx) sx k)], t0, n, 0)) rfl (fun _ => rfl) rfl ?_
      rcases hwi with hwi | ⟨hwi1, hwi2⟩
      · rw [hwi]
        refine ex_go (S := (116, l4, [], t0, n, 0)) rfl (fun _ => rfl) rfl ?_
        refine gx_ld (i := 0) (d := 2) (v := gx_r 144) rfl (fun _ => rfl) l4_0 rfl rfl ?_
        refine gx_ld (i := 4) (d := 0) (v := .inl k) rfl (fun _ => rfl) l4_4 rfl rfl ?_
        refine gxo_put (a := 144) rfl g0 rfl rfl rfl (ai_in_h (by first | decide | omega) (by first | decide | omega) (by first | decide | omega)) rfl (fun t105 g105 k105 e105 => ?_)
        have k6 : ai_hv t105 290 5 = some (.inl nl) := (e105 290 5 (by first | decide | omega)).trans kn0
        have k7 : ai_hv t105 190 sx = some (.inl (lowv (locv H wt tk nl (loCT H wt tk nl) sx) sx k)) := (e105 190 sx (by first | decide | omega)).trans hv
        have k8 : ai_hv t105 190 (losb sx k) = some (.inl (loCT H wt tk nl (losb sx k))) := (e105 190 (losb sx k) (by first | decide | omega)).trans ((e0 190 (losb sx k) (by first | decide | omega)).trans (kC _ hs9.1 hs9.2))
        refine gx_ld (i := 0) (d := 2) (v := gx_r 144) rfl (fun _ => rfl) l4_0 rfl rfl ?_
        refine gxo_ref (a := 144) (c := 190) rfl g105 rfl rfl rfl rfl rfl ?_
        refine gx_ld (i := 2) (d := 0) (v := .inl sx) rfl (fun _ => rfl) l4_2 rfl rfl ?_
        refine gx_ld (i := 5) (d := 0) (v := .inl (locv H wt tk nl (loCT H wt tk nl) sx k)) rfl (fun _ => rfl) hl4 rfl rfl ?_
        refine gx_ap rfl (fun _ => rfl) g105 rfl rfl rfl (show sx < 64 from by omega) (gx_run1 (show sx < 64 from by omega)) (gx_full (by first | decide | omega)) rfl (fun t109 g109 k109 e109 => ?_)
        have k10 : ai_hv t109 290 5 = some (.inl nl) := (e109 290 5 (by first | decide | omega)).trans k6
        have k11 : ai_hv t109 190 (losb sx k) = some (.inl (loCT H wt tk nl (losb sx k))) := (e109 190 (losb sx k) (by first | decide | omega)).trans k8
        have k12 : ai_hv t109 144 2 = some (.inl k) := (e109 144 2 (by first | decide | omega)).trans k105
        refine gx_incS (i := 4) (a := k) (x := 1) rfl (fun _ => rfl) l4_4 (by first | decide | omega) rfl (fun l13 hl13 ml13 => ?_)
        have l13_0 : en_ld l13 0 = some (gx_r 144) := ml13 0 _ l4_0 rfl
        have l13_1 : en_ld l13 1 = some (gx_r 290) := ml13 1 _ l4_1 rfl
        have l13_2 : en_ld l13 2 = some (.inl sx) := ml13 2 _ l4_2 rfl
        have l13_3 : en_ld l13 3 = some (.inl (lostp sx tk nl)) := ml13 3 _ l4_3 rfl
        have l13_5 : en_ld l13 5 = some (.inl (locv H wt tk nl (loCT H wt tk nl) sx k)) := ml13 5 _ hl4 rfl
        refine ex_go (S := (58, l13, [], t109, n, 0)) rfl (fun _ => rfl) rfl ?_
        have hn9 := lowb_k (g := locv H wt tk nl (loCT H wt tk nl) sx) (s := sx) (k := k) ⟨hb0, Or.inl hwi⟩ (by first | decide | omega)
        exact ih (k + 1) _ t109 (by first | decide | omega) g109 (fun c i h => ((e109 c i (by first | decide | omega)).trans (e105 c i (by first | decide | omega))).trans (e0 c i h)) (by rw [hn9.1]; exact (e109 144 2 (by first | decide | omega)).trans k105) (by rw [hn9.2]; exact k109) l13_0 l13_1 l13_2 l13_3 hl13
      · refine gx_2mf (c := .eq) rfl (by first | decide | omega) rfl rfl ?_
        refine gx_ld (i := 5) (d := 0) (v := .inl (locv H wt tk nl (loCT H wt tk nl) sx k)) rfl (fun _ => rfl) hl4 rfl rfl ?_
        refine gx_ld (i := 0) (d := 2) (v := gx_r 144) rfl (fun _ => rfl) l4_0 rfl rfl ?_
        refine gxo_ref (a := 144) (c := 190) rfl g0 rfl rfl rfl rfl rfl ?_
        refine gx_ld (i := 2) (d := 0) (v := .inl sx) rfl (fun _ => rfl) l4_2 rfl rfl ?_
        refine gx_ag (v := .inl (lowv (locv H wt tk nl (loCT H wt tk nl) sx) sx k)) (cb := fun c => Nat.beq c 0) rfl (fun _ => rfl) g0 rfl rfl hv (by first | decide | omega) rfl ?_
        have hlv : lowv (locv H wt tk nl (loCT H wt tk nl) sx) sx k < 1000000000 := by
          rw [lowv_s (by first | decide | omega)]
          exact hcv _ (by first | decide | omega) hwi2
        by_cases hle9 : locv H wt tk nl (loCT H wt tk nl) sx k ≤ lowv (locv H wt tk nl (loCT H wt tk nl) sx) sx k
        · refine gx_2t (c := .le) rfl (by first | decide | omega) (by first | decide | omega) hle9 rfl ?_
          refine gx_incS (i := 4) (a := k) (x := 1) rfl (fun _ => rfl) l4_4 (by first | decide | omega) rfl (fun l14 hl14 ml14 => ?_)
          have l14_0 : en_ld l14 0 = some (gx_r 144) := ml14 0 _ l4_0 rfl
          have l14_1 : en_ld l14 1 = some (gx_r 290) := ml14 1 _ l4_1 rfl
          have l14_2 : en_ld l14 2 = some (.inl sx) := ml14 2 _ l4_2 rfl
          have l14_3 : en_ld l14 3 = some (.inl (lostp sx tk nl)) := ml14 3 _ l4_3 rfl
          have l14_5 : en_ld l14 5 = some (.inl (locv H wt tk nl (loCT H wt tk nl) sx k)) := ml14 5 _ hl4 rfl
          refine ex_go (S := (58, l14, [], t0, n, 0)) rfl (fun _ => rfl) rfl ?_
          have hn9 := lowb_n (g := locv H wt tk nl (loCT H wt tk nl) sx) (s := sx) (k := k) (fun z => by
            rw [lowv_s (by first | decide | omega)] at hle9
            rcases z.2 with z | z <;> omega)
          exact ih (k + 1) _ t0 (by first | decide | omega) g0 (fun c i h => e0 c i h) (by rw [hn9.1]; exact hf) (by rw [hn9.2]; exact hv) l14_0 l14_1 l14_2 l14_3 hl14
        · refine gx_2f (c := .le) rfl (by first | decide | omega) (by first | decide | omega) hle9 rfl ?_
          refine gx_ld (i := 0) (d := 2) (v := gx_r 144) rfl (fun _ => rfl) l4_0 rfl rfl ?_
          refine gx_ld (i := 4) (d := 0) (v := .inl k) rfl (fun _ => rfl) l4_4 rfl rfl ?_
          refine gxo_put (a := 144) rfl g0 rfl rfl rfl (ai_in_h (by first | decide | omega) (by first | decide | omega) (by first | decide | omega)) rfl (fun t115 g115 k115 e115 => ?_)
          have k16 : ai_hv t115 290 5 = some (.inl nl) := (e115 290 5 (by first | decide | omega)).trans kn0
          have k17 : ai_hv t115 190 sx = some (.inl (lowv (locv H wt tk nl (loCT H wt tk nl) sx) sx k)) := (e115 190 sx (by first | decide | omega)).trans hv
          have k18 : ai_hv t115 190 (losb sx k) = some (.inl (loCT H wt tk nl (losb sx k))) := (e115 190 (losb sx k) (by first | decide | omega)).trans ((e0 190 (losb sx k) (by first | decide | omega)).trans (kC _ hs9.1 hs9.2))
          refine gx_ld (i := 0) (d := 2) (v := gx_r 144) rfl (fun _ => rfl) l4_0 rfl rfl ?_
          refine gxo_ref (a := 144) (c := 190) rfl g115 rfl rfl rfl rfl rfl ?_
          refine gx_ld (i := 2) (d := 0) (v := .inl sx) rfl (fun _ => rfl) l4_2 rfl rfl ?_
          refine gx_ld (i := 5) (d := 0) (v := .inl (locv H wt tk nl (loCT H wt tk nl) sx k)) rfl (fun _ => rfl) hl4 rfl rfl ?_
          refine gx_ap rfl (fun _ => rfl) g115 rfl rfl rfl (show sx < 64 from by omega) (gx_run1 (show sx < 64 from by omega)) (gx_full (by first | decide | omega)) rfl (fun t119 g119 k119 e119 => ?_)
          have k20 : ai_hv t119 290 5 = some (.inl nl) := (e119 290 5 (by first | decide | omega)).trans k16
          have k21 : ai_hv t119 190 (losb sx k) = some (.inl (loCT H wt tk nl (losb sx k))) := (e119 190 (losb sx k) (by first | decide | omega)).trans k18
          have k22 : ai_hv t119 144 2 = some (.inl k) := (e119 144 2 (by first | decide | omega)).trans k115
          refine gx_incS (i := 4) (a := k) (x := 1) rfl (fun _ => rfl) l4_4 (by first | decide | omega) rfl (fun l23 hl23 ml23 => ?_)
          have l23_0 : en_ld l23 0 = some (gx_r 144) := ml23 0 _ l4_0 rfl
          have l23_1 : en_ld l23 1 = some (gx_r 290) := ml23 1 _ l4_1 rfl
          have l23_2 : en_ld l23 2 = some (.inl sx) := ml23 2 _ l4_2 rfl
          have l23_3 : en_ld l23 3 = some (.inl (lostp sx tk nl)) := ml23 3 _ l4_3 rfl
          have l23_5 : en_ld l23 5 = some (.inl (locv H wt tk nl (loCT H wt tk nl) sx k)) := ml23 5 _ hl4 rfl
          refine ex_go (S := (58, l23, [], t119, n, 0)) rfl (fun _ => rfl) rfl ?_
          have hn9 := lowb_k (g := locv H wt tk nl (loCT H wt tk nl) sx) (s := sx) (k := k) ⟨hb0, Or.inr (by
            rw [lowv_s (by first | decide | omega)] at hle9
            omega)⟩ (by first | decide | omega)
          exact ih (k + 1) _ t119 (by first | decide | omega) g119 (fun c i h => ((e119 c i (by first | decide | omega)).trans (e115 c i (by first | decide | omega))).trans (e0 c i h)) (by rw [hn9.1]; exact (e119 144 2 (by first | decide | omega)).trans k115) (by rw [hn9.2]; exact k119) l23_0 l23_1 l23_2 l23_3 hl23
theorem pc_fload290 (d n : Nat) {tb : en_H} {nl sx : Nat} {wt tk H : Nat → Nat} (g0 : ai_HG ah_G tb) (kn : ai_hv tb 290 5 = some (.inl nl)) (hn : nl ≤ 6) (kw : ∀ k, k < nl → ai_hv tb 292 k = some (.inl (wt k))) (hw : ∀ k, k < nl → wt k ≤ 999) (kt : ∀ k, k < nl → ai_hv tb 293 k = some (.inl (tk k))) (ht : ∀ k, k < nl → 0 ≤ tk k ∧ tk k ≤ 9) (hset : sx < 64) (hsa : sx ≤ loal nl) (hK : (∀ i, i < 54 → ai_hv tb 189 i = some (.inl (H i)))) (hH : ∀ i, H i ≤ 10) (kC : ∀ s, sx < s → s ≤ loal nl → ai_hv tb 190 s = some (.inl (loCT H wt tk nl s))) : ∃ r, en_u (d + 2) 220 [gx_r 144, gx_r 290, .inl sx] tb n = some r ∧ ∃ t', r = (none, t', n, 0) ∧ ai_HG ah_G t' ∧ (∀ c i, ¬ ((c = 144 ∧ i = 2) ∨ (c = 190 ∧ i = sx)) → ai_hv t' c i = ai_hv tb c i) ∧ ai_hv t' 144 2 = some (.inl (lowb (locv H wt tk nl (loCT H wt tk nl) sx) sx nl)) ∧ ai_hv t' 190 sx = some (.inl (loCT H wt tk nl sx)) := by
  refine en_u_ex (d := d + 1) rfl ?_
  show en_ex _ _ _ _ (0, [(0, gx_r 144), (1, gx_r 290), (2, .inl sx)], [], tb, n, 0) _
  refine ex_go (S := (1, [(0, gx_r 144), (1, gx_r 290), (2, .inl sx)], [.inl 0], tb, n, 0)) rfl (fun _ => rfl) rfl ?_
  refine ex_go (S := (2, [(3, .inl 0), (0, gx_r 144), (1, gx_r 290), (2, .inl sx)], [], tb, n, 0)) rfl (fun _ => rfl) rfl ?_
  refine ex_go (S := (3, [(3, .inl 0), (0, gx_r 144), (1, gx_r 290), (2, .inl sx)], [.inl 0], tb, n, 0)) rfl (fun _ => rfl) rfl ?_
  refine ex_go (S := (5, [(4, .inl 0), (3, .inl 0), (0, gx_r 144), (1, gx_r 290), (2, .inl sx)], [], tb, n, 0)) rfl (fun _ => rfl) rfl ?_
  refine pc_fload290_a g0 kn hn kw hw kt ht hset (fun cl h0 h1 h2 h3 => ?_) nl 0 _ (by first | decide | omega) rfl rfl rfl rfl rfl
  refine gx_ld (i := 0) (d := 2) (v := gx_r 144) rfl (fun _ => rfl) h0 rfl rfl ?_
  refine ex_go (S := (45, cl, [.inl 4294967295, gx_r 144], tb, n, 0)) rfl (fun _ => rfl) rfl ?_
  refine gxo_put (a := 144) rfl g0 rfl rfl rfl ⟨_, rfl, by decide, by decide, by decide⟩ rfl (fun t101 g101 k101 e101 => ?_)
  refine gx_ld (i := 0) (d := 2) (v := gx_r 144) rfl (fun _ => rfl) h0 rfl rfl ?_
  refine gxo_ref (a := 144) (c := 190) rfl g101 rfl rfl rfl rfl rfl ?_
  refine gx_ld (i := 2) (d := 0) (v := .inl sx) rfl (fun _ => rfl) h2 rfl rfl ?_
  refine ex_go (S := (54, cl, [.inl 0, .inl sx, gx_r 190], t101, n, 0)) rfl (fun _ => rfl) rfl ?_
  refine gx_ap rfl (fun _ => rfl) g101 rfl rfl rfl (show sx < 64 from by omega) (gx_run1 (show sx < 64 from by omega)) (gx_full (by first | decide | omega)) rfl (fun t102 g102 k102 e102 => ?_)
  have k3 : ai_hv t102 144 2 = some (.inl 4294967295) := (e102 144 2 (by first | decide | omega)).trans k101
  refine ex_go (S := (56, cl, [.inl 0], t102, n, 0)) rfl (fun _ => rfl) rfl ?_
  refine gx_sto (i := 4) (d := 0) rfl (fun _ => rfl) rfl rfl (fun l4 hl4 ml4 => ?_)
  have l4_0 : en_ld l4 0 = some (gx_r 144) := ml4 0 _ h0 rfl
  have l4_1 : en_ld l4 1 = some (gx_r 290) := ml4 1 _ h1 rfl
  have l4_2 : en_ld l4 2 = some (.inl sx) := ml4 2 _ h2 rfl
  have l4_3 : en_ld l4 3 = some (.inl (lostp sx tk nl)) := ml4 3 _ h3 rfl
  refine pc_fload290_b d n (tb := t102) (H := H) (((e102 290 5 (by first | decide | omega)).trans (e101 290 5 (by first | decide | omega))).trans kn) hn (fun q hq => ((e102 292 q (by first | decide | omega)).trans (e101 292 q (by first | decide | omega))).trans (kw q hq)) hw (fun q hq => ((e102 293 q (by first | decide | omega)).trans (e101 293 q (by first | decide | omega))).trans (kt q hq)) ht hset hsa (fun i hi => ((e102 189 i (by first | decide | omega)).trans (e101 189 i (by first | decide | omega))).trans (hK i hi)) hH (fun s a1 a2 => ((e102 190 s (by first | decide | omega)).trans (e101 190 s (by first | decide | omega))).trans (kC s a1 a2)) (fun t1 g1 e1 h7 h8 => ⟨_, rfl, t1, rfl, g1, (fun c i h => (e1 c i h).trans ((e102 c i (by first | decide | omega)).trans (e101 c i (by first | decide | omega)))), h7, h8.trans (by rw [loCT_v hn hsa])⟩) nl 0 _ t102 (by first | decide | omega) g102 (fun _ _ _ => rfl) ((e102 144 2 (by first | decide | omega)).trans k101) k102 l4_0 l4_1 l4_2 l4_3 hl4
theorem pc_floads257_a (d n : Nat) {tb : en_H} {L : List Nat} {Q : en_O → Prop} (kb : ai_hv tb 302 2 = some (.inl L.length)) (hs : L.length ≤ 1000) (hc : cco tb 302 0 L) (hv : ∀ z, z ∈ L → ∃ fh, vo fh z) (hr : hrun 25 L 0 = some 1) (hQ : ∀ cl t1, ai_HG ah_G t1 → (∀ c i, ¬ (c = 189 ∨ c = 303) → ai_hv t1 c i = ai_hv tb c i) → (∀ i, i < 54 → ai_hv t1 189 i = some (.inl (10 - lowx L i))) → en_ld cl 0 = some (gx_r 144) → en_ld cl 1 = some (gx_r 257) → en_ex none (en_u (d + 3)) (en_code 158) (fun _ => false) (35, cl, [], t1, n, 0) Q) : ∀ j k cl t0, k + j = 54 → ai_HG ah_G t0 → (∀ c i, ¬ (c = 189 ∨ c = 303) → ai_hv t0 c i = ai_hv tb c i) → (∀ i, i < k → ai_hv t0 189 i = some (.inl (10 - lowx L i))) → en_ld cl 0 = some (gx_r 144) → en_ld cl 1 = some (gx_r 257) → en_ld cl 2 = some (.inl k) → en_ex none (en_u (d + 3)) (en_code 158) (fun _ => false) (2, cl, [], t0, n, 0) Q := by
  intro j
  induction j with
  | zero =>
    intro k cl t0 hj g0 e0 hI h0 h1 h2
    have hk : k = 54 := by omega
    rw [hk] at hI
    refine gx_ld (i := 2) (d := 0) (v := .inl k) rfl (fun _ => rfl) h2 rfl rfl ?_
    refine ex_go (S := (5, cl, [.inl 54, .inl k], t0, n, 0)) rfl (fun _ => rfl) rfl ?_
    refine gx_2t (c := .ge) rfl (by first | decide | omega) (by first | decide | omega) (show 54 ≤ k from by omega) rfl ?_
    exact hQ _ t0 g0 e0 hI h0 h1
  | succ j ih =>
    intro k cl t0 hj g0 e0 hI h0 h1 h2
    refine gx_ld (i := 2) (d := 0) (v := .inl k) rfl (fun _ => rfl) h2 rfl rfl ?_
    refine ex_go (S := (5, cl, [.inl 54, .inl k], t0, n, 0)) rfl (fun _ => rfl) rfl ?_
    refine gx_2f (c := .ge) rfl (by first | decide | omega) (by first | decide | omega) (show ¬ (54 ≤ k) from by omega) rfl ?_
    refine gx_ld (i := 0) (d := 2) (v := gx_r 144) rfl (fun _ => rfl) h0 rfl rfl ?_
    refine gxo_ref (a := 144) (c := 189) rfl g0 rfl rfl rfl rfl rfl ?_
    refine gx_ld (i := 2) (d := 0) (v := .inl k) rfl (fun _ => rfl) h2 rfl rfl ?_
    refine ex_go (S := (15, cl, [.inl 10, .inl k, gx_r 189], t0, n, 0)) rfl (fun _ => rfl) rfl ?_
    refine gx_ld (i := 1) (d := 2) (v := gx_r 257) rfl (fun _ => rfl) h1 rfl rfl ?_
    refine gxo_ref (a := 257) (c := 302) rfl g0 rfl rfl rfl rfl rfl ?_
    refine ex_go (S := (21, cl, [.inl 10, gx_r 302, .inl 10, .inl k, gx_r 189], t0, n, 0)) rfl (fun _ => rfl) rfl ?_
    refine ex_go (S := (22, cl, [.inl 0, .inl 10, gx_r 302, .inl 10, .inl k, gx_r 189], t0, n, 0)) rfl (fun _ => rfl) rfl ?_
    refine gx_ld (i := 2) (d := 0) (v := .inl k) rfl (fun _ => rfl) h2 rfl rfl ?_
    refine ex_go (S := (24, cl, [.inl 0, .inl k, .inl 0, .inl 10, gx_r 302, .inl 10, .inl k, gx_r 189], t0, n, 0)) rfl (fun _ => rfl) rfl ?_
    obtain ⟨_, r101, v101, t101, rfl, hv101, vb101, g101, e101⟩ := pc_value302 (d + 1) n (mo := 10) (me := 0) (ti := k) (ou := 0) (L := L) g0 (by decide) (by decide) (by first | decide | omega) (by decide) ((e0 302 2 (by first | decide | omega)).trans kb) hs (cco_keep (fun i => e0 304 i (by first | decide | omega)) hc) hv hr
    have hw9 : vcl 10 v101 = lowx L k := by unfold lowx; rw [hv101]; rfl
    rw [hw9] at r101
    have hx9 := lowx_le (L := L) (i := k)
    refine gx_callo (a := 302) rfl rfl g0 rfl rfl rfl r101 rfl ?_
    show en_ex _ _ _ _ (27, cl, [.inl (lowx L k), .inl 10, .inl k, gx_r 189], t101, n, 0) _
    refine gx_isub rfl (by first | decide | omega) (by first | decide | omega) rfl ?_
    refine gx_ap rfl (fun _ => rfl) g101 rfl rfl rfl (show k < 54 from by omega) (gx_run1 (show k < 54 from by omega)) (gx_full (by first | decide | omega)) rfl (fun t102 g102 k102 e102 => ?_)
    refine gx_incS (i := 2) (a := k) (x := 1) rfl (fun _ => rfl) h2 (by first | decide | omega) rfl (fun l3 hl3 ml3 => ?_)
    have l3_0 : en_ld l3 0 = some (gx_r 144) := ml3 0 _ h0 rfl
    have l3_1 : en_ld l3 1 = some (gx_r 257) := ml3 1 _ h1 rfl
    refine ex_go (S := (2, l3, [], t102, n, 0)) rfl (fun _ => rfl) rfl ?_
    have hI2 : (∀ i, i < k + 1 → ai_hv t102 189 i = some (.inl (10 - lowx L i))) := fun i hi => by
      by_cases e9 : i = k
      · rw [e9]; exact k102
      · exact ((e102 189 i (by first | decide | omega)).trans (e101 189 i (by first | decide | omega))).trans (hI i (by first | decide | omega))
    exact ih (k + 1) _ t102 (by first | decide | omega) g102 (fun c i h => ((e102 c i (by first | decide | omega)).trans (e101 c i (by first | decide | omega))).trans (e0 c i h)) hI2 l3_0 l3_1 hl3
theorem pc_floads257_b (d n : Nat) {tb : en_H} {nl : Nat} {wt tk H : Nat → Nat} {Q : en_O → Prop} (kn : ai_hv tb 290 5 = some (.inl nl)) (hn : nl ≤ 6) (kw : ∀ k, k < nl → ai_hv tb 292 k = some (.inl (wt k))) (hw : ∀ k, k < nl → wt k ≤ 999) (kt : ∀ k, k < nl → ai_hv tb 293 k = some (.inl (tk k))) (ht : ∀ k, k < nl → 0 ≤ tk k ∧ tk k ≤ 9) (hK : (∀ i, i < 54 → ai_hv tb 189 i = some (.inl (H i)))) (hH : ∀ i, H i ≤ 10) (hQ : ∀ t1, ai_HG ah_G t1 → (∀ c i, ¬ ((c = 144 ∧ i = 2) ∨ c = 190) → ai_hv t1 c i = ai_hv tb c i) → (∀ s, 0 ≤ s → s ≤ loal nl → ai_hv t1 190 s = some (.inl (loCT H wt tk nl s))) → ai_hv t1 144 2 = some (.inl (lowb (locv H wt tk nl (loCT H wt tk nl) 0) 0 nl)) → Q (.inl (none, t1, n, 0))) : ∀ m cl t0, m ≤ loal nl + 1 → ai_HG ah_G t0 → (∀ c i, ¬ ((c = 144 ∧ i = 2) ∨ c = 190) → ai_hv t0 c i = ai_hv tb c i) → (∀ s, m ≤ s → s ≤ loal nl → ai_hv t0 190 s = some (.inl (loCT H wt tk nl s))) → (m = 0 → ai_hv t0 144 2 = some (.inl (lowb (locv H wt tk nl (loCT H wt tk nl) 0) 0 nl))) → en_ld cl 0 = some (gx_r 144) → en_ld cl 1 = some (gx_r 257) → en_ld cl 2 = some (.inl (gz m)) → en_ex none (en_u (d + 3)) (en_code 158) (fun _ => false) (47, cl, [], t0, n, 0) Q := by
  have hal := loal_lt hn
  intro m
  induction m with
  | zero =>
    intro cl t0 hm g0 e0 hC hf h0 h1 h2
    refine gx_ld (i := 2) (d := 0) (v := .inl 4294967295) rfl (fun _ => rfl) h2 rfl rfl ?_
    refine ex_go (S := (66, cl, [], t0, n, 0)) rfl (fun _ => rfl) rfl ?_
    refine ex_ret (r := (none, t0, n, 0)) rfl (fun _ => rfl) ?_
    exact hQ t0 g0 e0 hC (hf rfl)
  | succ m ih =>
    intro cl t0 hm g0 e0 hC hf h0 h1 h2
    refine gx_ld (i := 2) (d := 0) (v := .inl m) rfl (fun _ => rfl) h2 rfl rfl ?_
    refine gx_1f (c := .lt) rfl (by first | decide | omega) (show ¬ (m < 0) from by omega) rfl ?_
    refine gx_ld (i := 0) (d := 2) (v := gx_r 144) rfl (fun _ => rfl) h0 rfl rfl ?_
    refine gx_ld (i := 1) (d := 2) (v := gx_r 257) rfl (fun _ => rfl) h1 rfl rfl ?_
    refine gxo_ref (a := 257) (c := 290) rfl g0 rfl rfl rfl rfl rfl ?_
    refine gx_ld (i := 2) (d := 0) (v := .inl m) rfl (fun _ => rfl) h2 rfl rfl ?_
    obtain ⟨_, r101, t101, rfl, g101, e101, kf101, kv101⟩ := pc_fload290 (d + 1) n (tb := t0) (sx := m) (H := H) g0 ((e0 290 5 (by first | decide | omega)).trans kn) hn (fun q hq => (e0 292 q (by first | decide | omega)).trans (kw q hq)) hw (fun q hq => (e0 293 q (by first | decide | omega)).trans (kt q hq)) ht (by first | decide | omega) (by first | decide | omega) (fun i hi => (e0 189 i (by first | decide | omega)).trans (hK i hi)) hH (fun s a1 a2 => hC s (by first | decide | omega) a2)
    refine gx_callo (a := 144) rfl rfl g0 rfl rfl rfl r101 rfl ?_
    show en_ex _ _ _ _ (60, cl, [], t101, n, 0) _
    refine gx_decz (i := 2) (a := m) rfl (fun _ => rfl) h2 (by first | decide | omega) rfl (fun l2 hl2 ml2 => ?_)
    have l2_0 : en_ld l2 0 = some (gx_r 144) := ml2 0 _ h0 rfl
    have l2_1 : en_ld l2 1 = some (gx_r 257) := ml2 1 _ h1 rfl
    refine ex_go (S := (47, l2, [], t101, n, 0)) rfl (fun _ => rfl) rfl ?_
    have hC2 : (∀ s, m ≤ s → s ≤ loal nl → ai_hv t101 190 s = some (.inl (loCT H wt tk nl s))) := fun s a1 a2 => by
      by_cases e9 : s = m
      · rw [e9]; exact kv101
      · exact (e101 190 s (by first | decide | omega)).trans (hC s (by first | decide | omega) a2)
    exact ih _ t101 (by first | decide | omega) g101 (fun c i h => (e101 c i (by first | decide | omega)).trans (e0 c i (by first | decide | omega))) hC2 (fun z => by subst z; exact kf101) l2_0 l2_1 hl2
theorem pc_floads257 (d n : Nat) {t0 : en_H} {nl : Nat} {wt tk : Nat → Nat} {L : List Nat} (g0 : ai_HG ah_G t0) (kn : ai_hv t0 290 5 = some (.inl nl)) (hn : nl ≤ 6) (kw : ∀ k, k < nl → ai_hv t0 292 k = some (.inl (wt k))) (hw : ∀ k, k < nl → wt k ≤ 999) (kt : ∀ k, k < nl → ai_hv t0 293 k = some (.inl (tk k))) (ht : ∀ k, k < nl → 0 ≤ tk k ∧ tk k ≤ 9) (kb : ai_hv t0 302 2 = some (.inl L.length)) (hs : L.length ≤ 1000) (hc : cco t0 302 0 L) (hv : ∀ z, z ∈ L → ∃ fh, vo fh z) (hr : hrun 25 L 0 = some 1) : ∃ r, en_u (d + 4) 158 [gx_r 144, gx_r 257] t0 n = some r ∧ ∃ t', r = (none, t', n, 0) ∧ ai_HG ah_G t' ∧ (∀ c i, ¬ ((c = 144 ∧ i = 2) ∨ c = 190 ∨ c = 189 ∨ c = 303) → ai_hv t' c i = ai_hv t0 c i) ∧ ai_hv t' 190 0 = some (.inl (loCT (fun i => 10 - lowx L i) wt tk nl 0)) ∧ ai_hv t' 144 2 = some (.inl (lowb (locv (fun i => 10 - lowx L i) wt tk nl (loCT (fun i => 10 - lowx L i) wt tk nl) 0) 0 nl)) := by
  have hal := loal_lt hn
  refine en_u_ex (d := d + 3) rfl ?_
  show en_ex _ _ _ _ (0, [(0, gx_r 144), (1, gx_r 257)], [], t0, n, 0) _
  refine ex_go (S := (1, [(0, gx_r 144), (1, gx_r 257)], [.inl 0], t0, n, 0)) rfl (fun _ => rfl) rfl ?_
  refine ex_go (S := (2, [(2, .inl 0), (0, gx_r 144), (1, gx_r 257)], [], t0, n, 0)) rfl (fun _ => rfl) rfl ?_
  refine pc_floads257_a d n (tb := t0) kb hs hc hv hr (fun cl ty gy ey hIy h0 h1 => ?_) 54 0 _ t0 (by first | decide | omega) g0 (fun _ _ _ => rfl) (fun i hi => absurd hi (Nat.not_lt_zero i)) rfl rfl rfl
  have kny := (ey 290 5 (by first | decide | omega)).trans kn
  refine ex_go (S := (36, cl, [.inl 1], ty, n, 0)) rfl (fun _ => rfl) rfl ?_
  refine gx_ld (i := 1) (d := 2) (v := gx_r 257) rfl (fun _ => rfl) h1 rfl rfl ?_
  refine gxo_ref (a := 257) (c := 290) rfl gy rfl rfl rfl rfl rfl ?_
  refine gxo_get (a := 290) rfl gy rfl rfl kny rfl ?_
  refine ex_go (S := (44, cl, [.inl ((nI 1 <<< (nI nl &&& 31)).toBitVec.toNat)], ty, n, 0)) rfl (fun _ => rfl) rfl ?_
  refine ex_go (S := (45, cl, [.inl 1, .inl ((nI 1 <<< (nI nl &&& 31)).toBitVec.toNat)], ty, n, 0)) rfl (fun _ => rfl) rfl ?_
  refine ex_go (S := (46, cl, [.inl ((nI ((nI 1 <<< (nI nl &&& 31)).toBitVec.toNat) - nI 1).toBitVec.toNat)], ty, n, 0)) rfl (fun _ => rfl) rfl ?_
  rw [gx_loal (by first | decide | omega)]
  refine gx_sto (i := 2) (d := 0) rfl (fun _ => rfl) rfl rfl (fun l1 hl1 ml1 => ?_)
  have l1_0 : en_ld l1 0 = some (gx_r 144) := ml1 0 _ h0 rfl
  have l1_1 : en_ld l1 1 = some (gx_r 257) := ml1 1 _ h1 rfl
  exact pc_floads257_b d n (tb := ty) (H := (fun i => 10 - lowx L i)) kny hn (fun q hq => (ey 292 q (by first | decide | omega)).trans (kw q hq)) hw (fun q hq => (ey 293 q (by first | decide | omega)).trans (kt q hq)) ht hIy (fun i => Nat.sub_le _ _) (fun t1 g1 e1 h7 h8 => ⟨_, rfl, t1, rfl, g1, (fun c i h => (e1 c i (by first | decide | omega)).trans (ey c i (by first | decide | omega))), h7 0 (Nat.le_refl _) (Nat.zero_le _), h8⟩) (loal nl + 1) _ ty (Nat.le_refl _) gy (fun _ _ _ => rfl) (fun s a1 a2 => absurd a2 (by first | decide | omega)) (fun z => absurd z (by first | decide | omega)) l1_0 l1_1 hl1
theorem pc_carry257 (d n : Nat) {t0 : en_H} {nl wh : Nat} {wt tk : Nat → Nat} {L : List Nat} (g0 : ai_HG ah_G t0) (kp : ai_hv t0 0 10 = some (gx_r 257)) (kn : ai_hv t0 290 5 = some (.inl nl)) (hn : nl ≤ 6) (kw : ∀ k, k < nl → ai_hv t0 292 k = some (.inl (wt k))) (hw : ∀ k, k < nl → wt k ≤ 999) (kt : ∀ k, k < nl → ai_hv t0 293 k = some (.inl (tk k))) (ht : ∀ k, k < nl → 0 ≤ tk k ∧ tk k ≤ 9) (kb : ai_hv t0 302 2 = some (.inl L.length)) (hs : L.length ≤ 1000) (hc : cco t0 302 0 L) (hv : ∀ z, z ∈ L → ∃ fh, vo fh z) (hr : hrun 25 L 0 = some 1) (hwh : wh < 4294967296) : ∃ r, en_u (d + 5) 79 [gx_r 0, .inl wh] t0 n = some r ∧ ∃ v t', r = (some (.inl v), t', n, 0) ∧ ai_HG ah_G t' ∧ (∀ c i, ¬ ((c = 144 ∧ i = 2) ∨ c = 190 ∨ c = 189 ∨ c = 303) → ai_hv t' c i = ai_hv t0 c i) ∧ (¬ wh ≤ 1 → v = 4294967294) ∧ (wh ≤ 1 → v = carv L wt tk nl wh) := by
  have hH : ∀ i, (fun i => 10 - lowx L i) i ≤ 10 := fun i => Nat.sub_le _ _
  have hb9 := loCT_b (tk := tk) (s := 0) hn hH hw (Nat.zero_le _)
  refine en_u_ex (d := d + 4) rfl ?_
  show en_ex _ _ _ _ (0, [(0, gx_r 0), (1, .inl wh)], [], t0, n, 0) _
  refine ex_go (S := (1, [(0, gx_r 0), (1, .inl wh)], [.inl wh], t0, n, 0)) rfl (fun _ => rfl) rfl ?_
  refine ex_go (S := (2, [(0, gx_r 0), (1, .inl wh)], [.inl 0, .inl wh], t0, n, 0)) rfl (fun _ => rfl) rfl ?_
  refine ex_go (S := (3, [(0, gx_r 0), (1, .inl wh)], [.inl 1, .inl 0, .inl wh], t0, n, 0)) rfl (fun _ => rfl) rfl ?_
  obtain ⟨_, r1, b2, rfl, b2b, q3⟩ := pz_isWithin (d + 3) n (t0 := t0) (x := wh) (lo := 0) (hi := 1) (by first | decide | omega) (by first | decide | omega) (by first | decide | omega)
  refine ex_stat rfl rfl rfl rfl rfl r1 (Nat.le_refl _) rfl ?_
  show en_ex _ _ _ _ (6, [(0, gx_r 0), (1, .inl wh)], [.inl b2], t0, n, 0) _
  by_cases hc4 : b2 ≠ 0
  · refine gx_1t (c := .ne) rfl (by first | decide | omega) hc4 rfl ?_
    refine ex_go (S := (13, [(0, gx_r 0), (1, .inl wh)], [gx_r 0], t0, n, 0)) rfl (fun _ => rfl) rfl ?_
    refine gxo_ref (a := 0) (c := 144) rfl g0 rfl rfl rfl rfl rfl ?_
    refine ex_go (S := (17, [(0, gx_r 0), (1, .inl wh)], [gx_r 0, gx_r 144], t0, n, 0)) rfl (fun _ => rfl) rfl ?_
    refine gxo_get (a := 0) rfl g0 rfl rfl kp rfl ?_
    obtain ⟨_, r105, t105, rfl, g105, e105, kw105, kf105⟩ := pc_floads257 d n g0 kn hn kw hw kt ht kb hs hc hv hr
    refine gx_callo (a := 144) rfl rfl g0 rfl rfl rfl r105 rfl ?_
    show en_ex _ _ _ _ (23, [(0, gx_r 0), (1, .inl wh)], [], t105, n, 0) _
    refine ex_go (S := (24, [(0, gx_r 0), (1, .inl wh)], [.inl wh], t105, n, 0)) rfl (fun _ => rfl) rfl ?_
    by_cases hc6 : wh ≠ 0
    · refine gx_1t (c := .ne) rfl (by first | decide | omega) hc6 rfl ?_
      refine ex_go (S := (39, [(0, gx_r 0), (1, .inl wh)], [gx_r 0], t105, n, 0)) rfl (fun _ => rfl) rfl ?_
      refine gxo_ref (a := 0) (c := 144) rfl g105 rfl rfl rfl rfl rfl ?_
      refine gxo_get (a := 144) rfl g105 rfl rfl kf105 rfl ?_
      refine ex_ret (r := (some (.inl (lowb (locv (fun i => 10 - lowx L i) wt tk nl (loCT (fun i => 10 - lowx L i) wt tk nl) 0) 0 nl)), t105, n, 0)) rfl (fun _ => rfl) ?_
      exact ⟨_, rfl, _, t105, rfl, g105, (fun c i h => e105 c i (by first | decide | omega)), fun z => absurd z (by first | decide | omega), fun _ => (if_neg (by first | decide | omega)).symm⟩
    · refine gx_1f (c := .ne) rfl (by first | decide | omega) hc6 rfl ?_
      refine ex_go (S := (28, [(0, gx_r 0), (1, .inl wh)], [gx_r 0], t105, n, 0)) rfl (fun _ => rfl) rfl ?_
      refine gxo_ref (a := 0) (c := 144) rfl g105 rfl rfl rfl rfl rfl ?_
      refine ex_go (S := (32, [(0, gx_r 0), (1, .inl wh)], [.inl 0, gx_r 144], t105, n, 0)) rfl (fun _ => rfl) rfl ?_
      obtain ⟨_, r7, rfl⟩ := pc_loadWorth (d + 3) n (f := 0) g105 (by decide) kw105
      refine gx_callo (a := 144) rfl rfl g105 rfl rfl rfl r7 rfl ?_
      show en_ex _ _ _ _ (35, [(0, gx_r 0), (1, .inl wh)], [.inl (loCT (fun i => 10 - lowx L i) wt tk nl 0)], t105, n, 0) _
      refine ex_go (S := (45, [(0, gx_r 0), (1, .inl wh)], [.inl (loCT (fun i => 10 - lowx L i) wt tk nl 0)], t105, n, 0)) rfl (fun _ => rfl) rfl ?_
      refine ex_ret (r := (some (.inl (loCT (fun i => 10 - lowx L i) wt tk nl 0)), t105, n, 0)) rfl (fun _ => rfl) ?_
      exact ⟨_, rfl, _, t105, rfl, g105, (fun c i h => e105 c i (by first | decide | omega)), fun z => absurd z (by first | decide | omega), fun _ => (if_pos (by first | decide | omega)).symm⟩
  · refine gx_1f (c := .ne) rfl (by first | decide | omega) hc4 rfl ?_
    refine ex_go (S := (11, [(0, gx_r 0), (1, .inl wh)], [.inl 4294967294], t0, n, 0)) rfl (fun _ => rfl) rfl ?_
    refine ex_ret (r := (some (.inl 4294967294), t0, n, 0)) rfl (fun _ => rfl) ?_
    exact ⟨_, rfl, _, t0, rfl, g0, (fun c i h => rfl), fun _ => rfl, fun z => absurd z (by first | decide | omega)⟩
end SLP
