section SSH
/-- what is eaten in the first k steps -/
noncomputable def psm (e : Nat → Nat) : Nat → Nat
  | 0 => 0
  | k + 1 => psm e k + e k
theorem psm_le {e : Nat → Nat} (h : ∀ k, e k ≤ 99) : ∀ k, psm e k ≤ 99 * k
  | 0 => Nat.le_refl _
  | k + 1 => by
    have h1 := psm_le h k
    have h2 := h k
    show psm e k + e k ≤ 99 * (k + 1)
    omega
theorem psm_mono {e : Nat → Nat} {j : Nat} : ∀ {k}, j ≤ k → psm e j ≤ psm e k
  | 0, h => by
    have e9 : j = 0 := by omega
    rw [e9]
    exact Nat.le_refl _
  | k + 1, h => by
    by_cases c : j = k + 1
    · rw [c]; exact Nat.le_refl _
    · have h1 := psm_mono (e := e) (j := j) (k := k) (by first | decide | omega)
      show psm e j ≤ psm e k + e k
      omega
/-- how long both can last together -/
noncomputable def Nsp (F G : Nat → Nat) (T N : Nat) : Prop := N ≤ 200 ∧ F N + G N ≤ T ∧ (N = 200 ∨ T < F (N + 1) + G (N + 1))
noncomputable def Lsp (F : Nat → Nat) (x n : Nat) : Prop := n ≤ 200 ∧ F n ≤ x ∧ (n = 200 ∨ x < F (n + 1))
theorem Nsp_max {e e' : Nat → Nat} {T N n : Nat} (h : Nsp (psm e) (psm e') T N) (hn : n ≤ 200) (hs : psm e n + psm e' n ≤ T) : n ≤ N := by
  obtain ⟨h1, h2, h3⟩ := h
  by_cases c : n ≤ N
  · exact c
  · have a := psm_mono (e := e) (j := N + 1) (k := n) (by first | decide | omega)
    have b := psm_mono (e := e') (j := N + 1) (k := n) (by first | decide | omega)
    omega
theorem Lsp_max {e : Nat → Nat} {x n m : Nat} (h : Lsp (psm e) x n) (hm : m ≤ 200) (hs : psm e m ≤ x) : m ≤ n := by
  obtain ⟨h1, h2, h3⟩ := h
  by_cases c : m ≤ n
  · exact c
  · have a := psm_mono (e := e) (j := n + 1) (k := m) (by first | decide | omega)
    omega
theorem sh_min {e e' : Nat → Nat} {T x y n1 n2 N m : Nat} (hN : Nsp (psm e) (psm e') T N) (hxy : x + y = T) (h1 : Lsp (psm e) x n1) (h2 : Lsp (psm e') y n2) (hm1 : m ≤ n1) (hm2 : m ≤ n2) (hm : m = n1 ∨ m = n2) : m ≤ N ∧ (m = N ↔ psm e N ≤ x ∧ psm e' N ≤ y) := by
  have a := psm_mono (e := e) hm1
  have b := psm_mono (e := e') hm2
  have a1 := h1.2.1
  have b1 := h2.2.1
  have c := Nsp_max hN (n := m) (by have := h1.1; omega) (by first | decide | omega)
  refine ⟨c, fun z => ?_, fun z => ?_⟩
  · subst z
    omega
  · have d1 := Lsp_max h1 hN.1 z.1
    have d2 := Lsp_max h2 hN.1 z.2
    rcases hm with e9 | e9 <;> omega
/-- less than nothing -/
noncomputable def ng (v : Nat) : Nat := en_wrap (4294967295 * v)
theorem ng_0 : ng 0 = 0 := by unfold ng en_wrap; omega
theorem ng_p {v : Nat} (h : 0 < v) (h2 : v < 2147483648) : ng v = 4294967296 - v := by unfold ng en_wrap; omega
theorem ng_or {v : Nat} (h2 : v < 2147483648) : (v = 0 ∧ ng v = 0) ∨ (0 < v ∧ ng v = 4294967296 - v) := by
  by_cases c : v = 0
  · rw [c]; exact Or.inl ⟨rfl, ng_0⟩
  · exact Or.inr ⟨by omega, ng_p (by first | decide | omega) h2⟩
theorem ng_add {b v : Nat} (h : v ≤ b) (hb : b < 2147483648) : en_wrap (b + ng v) = b - v := by
  rcases ng_or (v := v) (by first | decide | omega) with ⟨h1, h2⟩ | ⟨h1, h2⟩ <;> rw [h2] <;> unfold en_wrap <;> omega
theorem ng_sub {a v : Nat} (ha : a < 1073741824) (hv : v < 1073741824) : en_isub a (ng v) = some (a + v) := by
  rcases ng_or (v := v) (by first | decide | omega) with ⟨h1, h2⟩ | ⟨h1, h2⟩
  · rw [h2, h1]
    exact ha_sub (Nat.zero_le _) (by first | decide | omega)
  · rw [h2]
    show some (nI a - nI (4294967296 - v)).toBitVec.toNat = some (a + v)
    obtain ⟨z1, z2⟩ := ai_off_32 (nI a - nI (4294967296 - v))
    have e1 : (nI a - nI (4294967296 - v)).toInt = Int.bmod ((nI a).toInt - (nI (4294967296 - v)).toInt) 4294967296 := Int32.toInt_sub _ _
    have a1 := ai_off_int a
    have a2 := ai_off_int (4294967296 - v)
    rw [ai_off_nn (by first | decide | omega)] at a1
    have a3 : ai_off (4294967296 - v) = 2147483648 - v := by unfold ai_off; omega
    rw [a3] at a2
    rw [e1, Int.bmod_def] at z2
    unfold ai_off at z2
    refine congrArg some ?_
    generalize (nI a - nI (4294967296 - v)).toBitVec.toNat = w at z1 z2 ⊢
    split at z2 <;> omega
noncomputable def shp (a b f g : Nat) : Nat := if b < g then g - b else f - a
noncomputable def shA (a b f g : Nat) : Nat := if b < g then g - b else if a < f then ng (f - a) else 0
theorem sh_cs {a b f g : Nat} (h : f + g ≤ a + b) : (b < g ∧ shp a b f g = g - b ∧ shA a b f g = g - b) ∨ (g ≤ b ∧ a < f ∧ shp a b f g = f - a ∧ shA a b f g = ng (f - a)) ∨ (g ≤ b ∧ f ≤ a ∧ shp a b f g = 0 ∧ shA a b f g = 0) := by
  by_cases c : b < g
  · exact Or.inl ⟨c, if_pos c, if_pos c⟩
  · by_cases d : a < f
    · exact Or.inr (Or.inl ⟨by omega, d, if_neg c, (if_neg c).trans (if_pos d)⟩)
    · refine Or.inr (Or.inr ⟨by omega, by omega, (if_neg c).trans (by first | decide | omega), (if_neg c).trans (if_neg d)⟩)
/-- the best so far: ahead of v, and behind v given by the first -/
noncomputable def FI (a b f g N v best most : Nat) : Prop := (shp a b f g < v ∧ most = N ∧ best = shA a b f g) ∨ (v ≤ shp a b f g ∧ most < N)
noncomputable def FP (a b f g N v best most : Nat) : Prop := ((shp a b f g < v ∨ (shp a b f g = v ∧ (b < g ∨ v = 0))) ∧ most = N ∧ best = shA a b f g) ∨ (v ≤ shp a b f g ∧ ¬ (shp a b f g = v ∧ (b < g ∨ v = 0)) ∧ most < N)
section
variable {a b f g N v best most m : Nat}
theorem FP_take (hfg : f + g ≤ a + b) (h : FI a b f g N v best most) (h1 : 1 ≤ v) (hm : m ≤ N ∧ (m = N ↔ f ≤ a - 1 * v ∧ g ≤ b + 1 * v)) (hv : v ≤ a) (hlt : ¬ m ≤ most) : FP a b f g N v (1 * v) m := by
  unfold FI at h
  unfold FP
  rcases sh_cs hfg with ⟨c1, c2, c3⟩ | ⟨c0, c1, c2, c3⟩ | ⟨c0, c1, c2, c3⟩ <;> omega
theorem FP_keep (hfg : f + g ≤ a + b) (h : FI a b f g N v best most) (h1 : 1 ≤ v) (hm : m ≤ N ∧ (m = N ↔ f ≤ a - 1 * v ∧ g ≤ b + 1 * v)) (hv : v ≤ a) (hle : m ≤ most) : FP a b f g N v best most := by
  unfold FI at h
  unfold FP
  rcases sh_cs hfg with ⟨c1, c2, c3⟩ | ⟨c0, c1, c2, c3⟩ | ⟨c0, c1, c2, c3⟩ <;> omega
theorem FP_skip (hfg : f + g ≤ a + b) (h : FI a b f g N v best most) (h1 : 1 ≤ v) (hv : ¬ v ≤ a) : FP a b f g N v best most := by
  unfold FI at h
  unfold FP
  rcases sh_cs hfg with ⟨c1, c2, c3⟩ | ⟨c0, c1, c2, c3⟩ | ⟨c0, c1, c2, c3⟩ <;> omega
theorem FP_0 (hfg : f + g ≤ a + b) (hm : m ≤ N ∧ (m = N ↔ f ≤ a - 0 ∧ g ≤ b + 0)) : FP a b f g N 0 0 m := by
  unfold FP
  rcases sh_cs hfg with ⟨c1, c2, c3⟩ | ⟨c0, c1, c2, c3⟩ | ⟨c0, c1, c2, c3⟩ <;> omega
theorem FI_take (hfg : f + g ≤ a + b) (h : FP a b f g N v best most) (hm : m ≤ N ∧ (m = N ↔ f ≤ a + v ∧ g ≤ b - v)) (hv : v ≤ b) (hlt : ¬ m ≤ most) : FI a b f g N (v + 1) (ng v) m := by
  unfold FP at h
  unfold FI
  have e0 := ng_0
  rcases sh_cs hfg with ⟨c1, c2, c3⟩ | ⟨c0, c1, c2, c3⟩ | ⟨c0, c1, c2, c3⟩
  · omega
  · by_cases e : v = f - a
    · have e9 : ng v = ng (f - a) := congrArg ng e
      omega
    · omega
  · omega
theorem FI_keep (hfg : f + g ≤ a + b) (h : FP a b f g N v best most) (hm : m ≤ N ∧ (m = N ↔ f ≤ a + v ∧ g ≤ b - v)) (hv : v ≤ b) (hle : m ≤ most) : FI a b f g N (v + 1) best most := by
  unfold FP at h
  unfold FI
  rcases sh_cs hfg with ⟨c1, c2, c3⟩ | ⟨c0, c1, c2, c3⟩ | ⟨c0, c1, c2, c3⟩ <;> omega
theorem FI_skip (hfg : f + g ≤ a + b) (h : FP a b f g N v best most) (hv : ¬ v ≤ b) : FI a b f g N (v + 1) best most := by
  unfold FP at h
  unfold FI
  rcases sh_cs hfg with ⟨c1, c2, c3⟩ | ⟨c0, c1, c2, c3⟩ | ⟨c0, c1, c2, c3⟩ <;> omega
theorem FI_end (hfg : f + g ≤ a + b) (h : FI a b f g N v best most) (ha : ¬ v ≤ a) (hb : ¬ v ≤ b) : best = shA a b f g := by
  unfold FI at h
  rcases sh_cs hfg with ⟨c1, c2, c3⟩ | ⟨c0, c1, c2, c3⟩ | ⟨c0, c1, c2, c3⟩ <;> omega
end
theorem gx_isubg {oc : Option (List en_V)} {f : en_F} {code : Nat → Option en_I} {stop : Nat → Bool} {P : en_O → Prop} {pc nx : Nat} {ls : en_L} {st : List en_V} {t : en_H} {n sl : Nat} {x1 x2 a b c : Nat} (hc : code pc = some (.isub, nx, x1, x2)) (hs : en_isub a b = some c) (hp : stop nx = false) (h : en_ex oc f code stop (nx, ls, .inl c :: st, t, n, sl) P) : en_ex oc f code stop (pc, ls, .inl b :: .inl a :: st, t, n, sl) P := by
  refine ex_go (S := (nx, ls, .inl c :: st, t, n, sl)) hc (fun k => ?_) hp h
  show (match (match en_isub a b with | some z => some (.inl z) | none => none) with | some v => k nx ls (v :: st) t n sl | none => none) = _
  rw [hs]
theorem sh_lb_l {fn : en_F} {n : Nat} {t0 : en_H} {c x : Nat} {e : Nat → Nat} {Q : en_O → Prop} (g0 : ai_HG ah_G t0) (hc : c ≤ 1) (hx : x < 2147483648) (he : ∀ k, e k ≤ 99) (hS : ∀ i, i ≤ 200 → ai_hv t0 404 (201 * c + i) = some (.inl (psm e i))) (hQ : ∀ r, Lsp (psm e) x r → Q (.inl (some (.inl r), t0, n, 0))) : ∀ j k cl, k + j = 200 → psm e k ≤ x → en_ld cl 0 = some (gx_r 383) → en_ld cl 1 = some (.inl c) → en_ld cl 2 = some (.inl x) → en_ld cl 3 = some (.inl k) → en_ex none fn (en_code 143) (fun _ => false) (2, cl, [], t0, n, 0) Q := by
  intro j
  induction j with
  | zero =>
    intro k cl hj hk h0 h1 h2 h3
    refine gx_ld (i := 3) (d := 0) (v := .inl k) rfl (fun _ => rfl) h3 rfl rfl ?_
    refine ex_go (S := (6, cl, [.inl 200, .inl k], t0, n, 0)) rfl (fun _ => rfl) rfl ?_
    refine gx_2t (c := .ge) rfl (by first | decide | omega) (by first | decide | omega) (show 200 ≤ k from by omega) rfl ?_
    refine gx_ld (i := 3) (d := 0) (v := .inl k) rfl (fun _ => rfl) h3 rfl rfl ?_
    refine ex_ret (r := (some (.inl k), t0, n, 0)) rfl (fun _ => rfl) ?_
    exact hQ k ⟨by omega, hk, Or.inl (by first | decide | omega)⟩
  | succ j ih =>
    intro k cl hj hk h0 h1 h2 h3
    have hp9 := psm_le he (k + 1)
    refine gx_ld (i := 3) (d := 0) (v := .inl k) rfl (fun _ => rfl) h3 rfl rfl ?_
    refine ex_go (S := (6, cl, [.inl 200, .inl k], t0, n, 0)) rfl (fun _ => rfl) rfl ?_
    refine gx_2f (c := .ge) rfl (by first | decide | omega) (by first | decide | omega) (show ¬ (200 ≤ k) from by omega) rfl ?_
    refine gx_ld (i := 0) (d := 2) (v := gx_r 383) rfl (fun _ => rfl) h0 rfl rfl ?_
    refine gx_ref (c := 404) rfl g0 rfl rfl rfl rfl ?_
    refine ex_go (S := (16, cl, [.inl 201, gx_r 404], t0, n, 0)) rfl (fun _ => rfl) rfl ?_
    refine gx_ld (i := 1) (d := 0) (v := .inl c) rfl (fun _ => rfl) h1 rfl rfl ?_
    refine gx_imul rfl (by first | decide | omega) rfl ?_
    refine gx_ld (i := 3) (d := 0) (v := .inl k) rfl (fun _ => rfl) h3 rfl rfl ?_
    refine ex_iadd rfl (by first | decide | omega) rfl ?_
    refine ex_go (S := (21, cl, [.inl 1, .inl ((201 * c) + k), gx_r 404], t0, n, 0)) rfl (fun _ => rfl) rfl ?_
    refine ex_iadd rfl (by first | decide | omega) rfl ?_
    refine gx_ag (v := .inl (psm e (k + 1))) (cb := fun c => Nat.beq c 0) rfl (fun _ => rfl) g0 rfl rfl (hS (k + 1) (by first | decide | omega)) (by first | decide | omega) rfl ?_
    refine gx_ld (i := 2) (d := 0) (v := .inl x) rfl (fun _ => rfl) h2 rfl rfl ?_
    by_cases hc21 : x < psm e (k + 1)
    · refine gx_2t (c := .gt) rfl (by first | decide | omega) (by first | decide | omega) hc21 rfl ?_
      refine gx_ld (i := 3) (d := 0) (v := .inl k) rfl (fun _ => rfl) h3 rfl rfl ?_
      refine ex_ret (r := (some (.inl k), t0, n, 0)) rfl (fun _ => rfl) ?_
      exact hQ k ⟨by omega, hk, Or.inr (by first | decide | omega)⟩
    · refine gx_2f (c := .gt) rfl (by first | decide | omega) (by first | decide | omega) hc21 rfl ?_
      refine gx_incS (i := 3) (a := k) (x := 1) rfl (fun _ => rfl) h3 (by first | decide | omega) rfl (fun l22 hl22 ml22 => ?_)
      have l22_0 : en_ld l22 0 = some (gx_r 383) := ml22 0 _ h0 rfl
      have l22_1 : en_ld l22 1 = some (.inl c) := ml22 1 _ h1 rfl
      have l22_2 : en_ld l22 2 = some (.inl x) := ml22 2 _ h2 rfl
      refine ex_go (S := (2, l22, [], t0, n, 0)) rfl (fun _ => rfl) rfl ?_
      exact ih (k + 1) _ (by first | decide | omega) (by first | decide | omega) l22_0 l22_1 l22_2 hl22
theorem sh_lastsBy (d n : Nat) {t0 : en_H} {c x : Nat} {e : Nat → Nat} (g0 : ai_HG ah_G t0) (hc : c ≤ 1) (hx : x < 2147483648) (he : ∀ k, e k ≤ 99) (hS : ∀ i, i ≤ 200 → ai_hv t0 404 (201 * c + i) = some (.inl (psm e i))) : ∃ r, en_u (d + 1) 143 [gx_r 383, .inl c, .inl x] t0 n = some r ∧ ∃ v, r = (some (.inl v), t0, n, 0) ∧ Lsp (psm e) x v := by
  refine en_u_ex rfl ?_
  show en_ex _ _ _ _ (0, [(0, gx_r 383), (1, .inl c), (2, .inl x)], [], t0, n, 0) _
  refine ex_go (S := (1, [(0, gx_r 383), (1, .inl c), (2, .inl x)], [.inl 0], t0, n, 0)) rfl (fun _ => rfl) rfl ?_
  refine ex_go (S := (2, [(3, .inl 0), (0, gx_r 383), (1, .inl c), (2, .inl x)], [], t0, n, 0)) rfl (fun _ => rfl) rfl ?_
  exact sh_lb_l g0 hc hx he hS (fun r hr => ⟨_, rfl, r, rfl, hr⟩) 200 0 _ (by first | decide | omega) (Nat.zero_le _) rfl rfl rfl rfl
theorem sh_nd (d n : Nat) {tb : en_H} {w : Nat → Nat → Nat} {L : List Nat} {σ : Nat → Nat} {c : Nat} {Q : en_O → Prop} (hR : RW tb w L) (hS : blk tb 0 σ) (hB : σ 0 ≤ 900000) (hc : c < w 0 4) (ho : σ (11 + c) ≤ 1) (hQ : ∀ cl t1, ai_HG ah_G t1 → (∀ c' i, ¬ ((c' = 404 ∧ 201 * c ≤ i ∧ i ≤ 201 * c + 200) ∨ (c' = 397 ∧ i < 3) ∨ c' = 398) → ai_hv t1 c' i = ai_hv tb c' i) → (∀ i, i ≤ 200 → ai_hv t1 404 (201 * c + i) = some (.inl (psm (eatk w L σ c) i))) → en_ld cl 0 = some (gx_r 383) → en_ld cl 1 = some (.inl c) → en_ex none (en_u (d + 4)) (en_code 70) (fun _ => false) (108, cl, [], t1, n, 0) Q) : ∀ j k cl t0, k + j = 200 → ai_HG ah_G t0 → (∀ c' i, ¬ ((c' = 404 ∧ 201 * c ≤ i ∧ i ≤ 201 * c + 200) ∨ (c' = 397 ∧ i < 3) ∨ c' = 398) → ai_hv t0 c' i = ai_hv tb c' i) → (∀ i, i ≤ k → ai_hv t0 404 (201 * c + i) = some (.inl (psm (eatk w L σ c) i))) → en_ld cl 0 = some (gx_r 383) → en_ld cl 1 = some (.inl c) → en_ld cl 2 = some (.inl k) → en_ex none (en_u (d + 4)) (en_code 70) (fun _ => false) (46, cl, [], t0, n, 0) Q := by
  intro j
  induction j with
  | zero =>
    intro k cl t0 hk g0 e0 hN l0 l1 l2
    have hk : k = 200 := by omega
    rw [hk] at hN
    refine gx_ld (i := 2) (d := 0) (v := .inl k) rfl (fun _ => rfl) l2 rfl rfl ?_
    refine ex_go (S := (50, cl, [.inl 200, .inl k], t0, n, 0)) rfl (fun _ => rfl) rfl ?_
    refine gx_2t (c := .ge) rfl (by first | decide | omega) (by first | decide | omega) (show 200 ≤ k from by omega) rfl ?_
    exact hQ _ t0 g0 e0 hN l0 l1
  | succ j ih =>
    intro k cl t0 hk g0 e0 hN l0 l1 l2
    have hK := hR.2.1.2.2.2.2.1
    have he9 := eatk_le (w := w) (L := L) (σ := σ) (c := c) (k := k)
    have hp9 := psm_le (e := eatk w L σ c) (fun _ => eatk_le) k
    have k0 : ai_hv t0 399 0 = some (.inl (σ 0)) := (e0 399 0 (by first | decide | omega)).trans (hS 0 (by decide))
    have k11 : ai_hv t0 399 (11 + c) = some (.inl (σ (11 + c))) := by
      have h9 := hS (11 + c) (by first | decide | omega)
      rw [Nat.zero_add] at h9
      exact (e0 399 (11 + c) (by first | decide | omega)).trans h9
    refine gx_ld (i := 2) (d := 0) (v := .inl k) rfl (fun _ => rfl) l2 rfl rfl ?_
    refine ex_go (S := (50, cl, [.inl 200, .inl k], t0, n, 0)) rfl (fun _ => rfl) rfl ?_
    refine gx_2f (c := .ge) rfl (by first | decide | omega) (by first | decide | omega) (show ¬ (200 ≤ k) from by omega) rfl ?_
    refine gx_ld (i := 0) (d := 2) (v := gx_r 383) rfl (fun _ => rfl) l0 rfl rfl ?_
    refine gx_ref (c := 404) rfl g0 rfl rfl rfl rfl ?_
    refine ex_go (S := (60, cl, [.inl 201, gx_r 404], t0, n, 0)) rfl (fun _ => rfl) rfl ?_
    refine gx_ld (i := 1) (d := 0) (v := .inl c) rfl (fun _ => rfl) l1 rfl rfl ?_
    refine gx_imul rfl (by first | decide | omega) rfl ?_
    refine gx_ld (i := 2) (d := 0) (v := .inl k) rfl (fun _ => rfl) l2 rfl rfl ?_
    refine ex_iadd rfl (by first | decide | omega) rfl ?_
    refine ex_go (S := (65, cl, [.inl 1, .inl ((201 * c) + k), gx_r 404], t0, n, 0)) rfl (fun _ => rfl) rfl ?_
    refine ex_iadd rfl (by first | decide | omega) rfl ?_
    refine gx_ld (i := 0) (d := 2) (v := gx_r 383) rfl (fun _ => rfl) l0 rfl rfl ?_
    refine gx_ref (c := 404) rfl g0 rfl rfl rfl rfl ?_
    refine ex_go (S := (73, cl, [.inl 201, gx_r 404, .inl (((201 * c) + k) + 1), gx_r 404], t0, n, 0)) rfl (fun _ => rfl) rfl ?_
    refine gx_ld (i := 1) (d := 0) (v := .inl c) rfl (fun _ => rfl) l1 rfl rfl ?_
    refine gx_imul rfl (by first | decide | omega) rfl ?_
    refine gx_ld (i := 2) (d := 0) (v := .inl k) rfl (fun _ => rfl) l2 rfl rfl ?_
    refine ex_iadd rfl (by first | decide | omega) rfl ?_
    refine gx_ag (v := .inl (psm (eatk w L σ c) k)) (cb := fun c => Nat.beq c 0) rfl (fun _ => rfl) g0 rfl rfl (hN k (Nat.le_refl _)) (by first | decide | omega) rfl ?_
    refine gx_ld (i := 0) (d := 2) (v := gx_r 383) rfl (fun _ => rfl) l0 rfl rfl ?_
    refine gx_ld (i := 1) (d := 0) (v := .inl c) rfl (fun _ => rfl) l1 rfl rfl ?_
    refine gx_ld (i := 0) (d := 2) (v := gx_r 383) rfl (fun _ => rfl) l0 rfl rfl ?_
    refine gx_ref (c := 399) rfl g0 rfl rfl rfl rfl ?_
    refine ex_go (S := (85, cl, [.inl 0, gx_r 399, .inl c, gx_r 383, .inl (psm (eatk w L σ c) k), .inl (((201 * c) + k) + 1), gx_r 404], t0, n, 0)) rfl (fun _ => rfl) rfl ?_
    refine gx_ag (v := .inl (σ 0)) (cb := fun c => Nat.beq c 0) rfl (fun _ => rfl) g0 rfl rfl k0 (by first | decide | omega) rfl ?_
    refine gx_ld (i := 2) (d := 0) (v := .inl k) rfl (fun _ => rfl) l2 rfl rfl ?_
    refine ex_iadd rfl (by first | decide | omega) rfl ?_
    refine gx_ld (i := 0) (d := 2) (v := gx_r 383) rfl (fun _ => rfl) l0 rfl rfl ?_
    refine gx_ref (c := 399) rfl g0 rfl rfl rfl rfl ?_
    refine ex_go (S := (94, cl, [.inl 11, gx_r 399, .inl ((σ 0) + k), .inl c, gx_r 383, .inl (psm (eatk w L σ c) k), .inl (((201 * c) + k) + 1), gx_r 404], t0, n, 0)) rfl (fun _ => rfl) rfl ?_
    refine gx_ld (i := 1) (d := 0) (v := .inl c) rfl (fun _ => rfl) l1 rfl rfl ?_
    refine ex_iadd rfl (by first | decide | omega) rfl ?_
    refine gx_ag (v := .inl (σ (11 + c))) (cb := fun c => Nat.beq c 0) rfl (fun _ => rfl) g0 rfl rfl k11 (by first | decide | omega) rfl ?_
    obtain ⟨_, r121, t121, rfl, g121, e121⟩ := sr_eats d n (c := c) (ti := σ 0 + k) (ou := σ (11 + c)) g0 (RW_keep hR (fun i hi => e0 389 i (by first | decide | omega)) (fun c i hc _ => e0 c i (by first | decide | omega))) hc (by first | decide | omega) (by first | decide | omega)
    refine gx_call1 rfl rfl g0 rfl rfl r121 rfl ?_
    have k22 : ai_hv t121 399 0 = some (.inl (σ 0)) := (e121 399 0 (by first | decide | omega)).trans k0
    have k23 : ai_hv t121 399 (11 + c) = some (.inl (σ (11 + c))) := (e121 399 (11 + c) (by first | decide | omega)).trans k11
    have k24 : ai_hv t121 404 ((201 * c) + k) = some (.inl (psm (eatk w L σ c) k)) := (e121 404 ((201 * c) + k) (by first | decide | omega)).trans (hN k (Nat.le_refl _))
    show en_ex _ _ _ _ (100, cl, [.inl (eatk w L σ c k), .inl (psm (eatk w L σ c) k), .inl (((201 * c) + k) + 1), gx_r 404], t121, n, 0) _
    refine ex_iadd rfl (by first | decide | omega) rfl ?_
    refine gx_ap rfl (fun _ => rfl) g121 rfl rfl rfl (show ((201 * c) + k) + 1 < 402 from by omega) (gx_run1 (show ((201 * c) + k) + 1 < 402 from by omega)) (gx_full (by first | decide | omega)) rfl (fun t125 g125 k125 e125 => ?_)
    have k26 : ai_hv t125 399 0 = some (.inl (σ 0)) := (e125 399 0 (by first | decide | omega)).trans k22
    have k27 : ai_hv t125 399 (11 + c) = some (.inl (σ (11 + c))) := (e125 399 (11 + c) (by first | decide | omega)).trans k23
    have k28 : ai_hv t125 404 ((201 * c) + k) = some (.inl (psm (eatk w L σ c) k)) := (e125 404 ((201 * c) + k) (by first | decide | omega)).trans k24
    refine gx_incS (i := 2) (a := k) (x := 1) rfl (fun _ => rfl) l2 (by first | decide | omega) rfl (fun l29 hl29 ml29 => ?_)
    have l29_0 : en_ld l29 0 = some (gx_r 383) := ml29 0 _ l0 rfl
    have l29_1 : en_ld l29 1 = some (.inl c) := ml29 1 _ l1 rfl
    refine ex_go (S := (46, l29, [], t125, n, 0)) rfl (fun _ => rfl) rfl ?_
    exact ih (k + 1) _ _ (by first | decide | omega) g125 (fun c' i h => (e125 c' i (by first | decide | omega)).trans ((e121 c' i (by first | decide | omega)).trans (e0 c' i (by first | decide | omega)))) (fun i hi => by
      by_cases e9 : i = k + 1
      · rw [e9]; exact k125
      · exact ((e125 404 (201 * c + i) (by first | decide | omega)).trans (e121 404 (201 * c + i) (by first | decide | omega))).trans (hN i (by first | decide | omega))) l29_0 l29_1 hl29
theorem sh_0 (d n : Nat) {t0 : en_H} {a b N : Nat} {e e' : Nat → Nat} {Q : en_O → Prop} (g0 : ai_HG ah_G t0) (ha : a ≤ 19998) (hb : b ≤ 19998) (hS0 : ∀ i, i ≤ 200 → ai_hv t0 404 i = some (.inl (psm e i))) (hS1 : ∀ i, i ≤ 200 → ai_hv t0 404 (201 + i) = some (.inl (psm e' i))) (he : ∀ k, e k ≤ 99) (he' : ∀ k, e' k ≤ 99) (hN : Nsp (psm e) (psm e') (a + b) N) (hQ : ∀ cl be mo, mo ≤ 200 → FP a b (psm e N) (psm e' N) N 0 be mo → en_ld cl 0 = some (gx_r 383) → en_ld cl 1 = some (.inl a) → en_ld cl 2 = some (.inl b) → en_ld cl 3 = some (.inl be) → en_ld cl 4 = some (.inl mo) → en_ld cl 5 = some (.inl 0) → en_ld cl 6 = some (.inl 1) → en_ex none (en_u (d + 4)) (en_code 70) (fun _ => false) (257, cl, [], t0, n, 0) Q) {cl : en_L} : en_ld cl 0 = some (gx_r 383) → en_ld cl 1 = some (.inl a) → en_ld cl 2 = some (.inl b) → en_ld cl 3 = some (.inl 0) → en_ld cl 4 = some (.inl 4294967295) → en_ld cl 5 = some (.inl 0) → en_ex none (en_u (d + 4)) (en_code 70) (fun _ => false) (150, cl, [], t0, n, 0) Q := by
  intro h0 h1' h2 h3 h4 h5
  have hfg := hN.2.1
  refine ex_go (S := (151, cl, [.inl 1], t0, n, 0)) rfl (fun _ => rfl) rfl ?_
  refine gx_sto (i := 6) (d := 0) rfl (fun _ => rfl) rfl rfl (fun l21 hl21 ml21 => ?_)
  have l21_0 : en_ld l21 0 = some (gx_r 383) := ml21 0 _ h0 rfl
  have l21_1 : en_ld l21 1 = some (.inl a) := ml21 1 _ h1' rfl
  have l21_2 : en_ld l21 2 = some (.inl b) := ml21 2 _ h2 rfl
  have l21_3 : en_ld l21 3 = some (.inl 0) := ml21 3 _ h3 rfl
  have l21_4 : en_ld l21 4 = some (.inl 4294967295) := ml21 4 _ h4 rfl
  have l21_5 : en_ld l21 5 = some (.inl 0) := ml21 5 _ h5 rfl
  refine gx_ld (i := 6) (d := 0) (v := .inl 1) rfl (fun _ => rfl) hl21 rfl rfl ?_
  refine ex_go (S := (157, l21, [.inl 4294967294, .inl 1], t0, n, 0)) rfl (fun _ => rfl) rfl ?_
  refine ex_go (S := (160, l21, [], t0, n, 0)) rfl (fun _ => rfl) rfl ?_
  refine gx_ld (i := 6) (d := 0) (v := .inl 1) rfl (fun _ => rfl) hl21 rfl rfl ?_
  refine ex_go (S := (165, l21, [], t0, n, 0)) rfl (fun _ => rfl) rfl ?_
  refine gx_ld (i := 5) (d := 0) (v := .inl 0) rfl (fun _ => rfl) l21_5 rfl rfl ?_
  refine gx_ld (i := 1) (d := 0) (v := .inl a) rfl (fun _ => rfl) l21_1 rfl rfl ?_
  refine gx_2f (c := .gt) rfl (by first | decide | omega) (by first | decide | omega) (show ¬ (a < 0) from by omega) rfl ?_
  refine ex_go (S := (180, l21, [], t0, n, 0)) rfl (fun _ => rfl) rfl ?_
  refine gx_ld (i := 0) (d := 2) (v := gx_r 383) rfl (fun _ => rfl) l21_0 rfl rfl ?_
  refine ex_go (S := (182, l21, [.inl 0, gx_r 383], t0, n, 0)) rfl (fun _ => rfl) rfl ?_
  refine gx_ld (i := 1) (d := 0) (v := .inl a) rfl (fun _ => rfl) l21_1 rfl rfl ?_
  refine gx_ld (i := 6) (d := 0) (v := .inl 1) rfl (fun _ => rfl) hl21 rfl rfl ?_
  refine gx_ld (i := 5) (d := 0) (v := .inl 0) rfl (fun _ => rfl) l21_5 rfl rfl ?_
  refine ex_go (S := (188, l21, [.inl 0, .inl a, .inl 0, gx_r 383], t0, n, 0)) rfl (fun _ => rfl) rfl ?_
  refine gx_isub rfl (by first | decide | omega) (by first | decide | omega) rfl ?_
  obtain ⟨_, r122, n122, rfl, hn122⟩ := sh_lastsBy (d + 3) n (c := 0) (x := a - 0) (e := e) g0 (by decide) (by first | decide | omega) he (fun i hi => by rw [show 201 * 0 + i = i by omega]; exact hS0 i hi)
  have hl122 := hn122.1
  refine gx_call1 rfl rfl g0 rfl rfl r122 rfl ?_
  show en_ex _ _ _ _ (192, l21, [.inl n122], t0, n, 0) _
  refine gx_sto (i := 7) (d := 0) rfl (fun _ => rfl) rfl rfl (fun l23 hl23 ml23 => ?_)
  have l23_0 : en_ld l23 0 = some (gx_r 383) := ml23 0 _ l21_0 rfl
  have l23_1 : en_ld l23 1 = some (.inl a) := ml23 1 _ l21_1 rfl
  have l23_2 : en_ld l23 2 = some (.inl b) := ml23 2 _ l21_2 rfl
  have l23_3 : en_ld l23 3 = some (.inl 0) := ml23 3 _ l21_3 rfl
  have l23_4 : en_ld l23 4 = some (.inl 4294967295) := ml23 4 _ l21_4 rfl
  have l23_5 : en_ld l23 5 = some (.inl 0) := ml23 5 _ l21_5 rfl
  have l23_6 : en_ld l23 6 = some (.inl 1) := ml23 6 _ hl21 rfl
  refine gx_ld (i := 0) (d := 2) (v := gx_r 383) rfl (fun _ => rfl) l23_0 rfl rfl ?_
  refine ex_go (S := (196, l23, [.inl 1, gx_r 383], t0, n, 0)) rfl (fun _ => rfl) rfl ?_
  refine gx_ld (i := 2) (d := 0) (v := .inl b) rfl (fun _ => rfl) l23_2 rfl rfl ?_
  refine gx_ld (i := 6) (d := 0) (v := .inl 1) rfl (fun _ => rfl) l23_6 rfl rfl ?_
  refine gx_ld (i := 5) (d := 0) (v := .inl 0) rfl (fun _ => rfl) l23_5 rfl rfl ?_
  refine ex_go (S := (202, l23, [.inl 0, .inl b, .inl 1, gx_r 383], t0, n, 0)) rfl (fun _ => rfl) rfl ?_
  refine ex_iadd rfl (by first | decide | omega) rfl ?_
  obtain ⟨_, r124, n124, rfl, hn124⟩ := sh_lastsBy (d + 3) n (c := 1) (x := b + 0) (e := e') g0 (by decide) (by first | decide | omega) he' (fun i hi => hS1 i hi)
  have hl124 := hn124.1
  refine gx_call1 rfl rfl g0 rfl rfl r124 rfl ?_
  show en_ex _ _ _ _ (206, l23, [.inl n124], t0, n, 0) _
  refine gx_sto (i := 8) (d := 0) rfl (fun _ => rfl) rfl rfl (fun l25 hl25 ml25 => ?_)
  have l25_0 : en_ld l25 0 = some (gx_r 383) := ml25 0 _ l23_0 rfl
  have l25_1 : en_ld l25 1 = some (.inl a) := ml25 1 _ l23_1 rfl
  have l25_2 : en_ld l25 2 = some (.inl b) := ml25 2 _ l23_2 rfl
  have l25_3 : en_ld l25 3 = some (.inl 0) := ml25 3 _ l23_3 rfl
  have l25_4 : en_ld l25 4 = some (.inl 4294967295) := ml25 4 _ l23_4 rfl
  have l25_5 : en_ld l25 5 = some (.inl 0) := ml25 5 _ l23_5 rfl
  have l25_6 : en_ld l25 6 = some (.inl 1) := ml25 6 _ l23_6 rfl
  have l25_7 : en_ld l25 7 = some (.inl n122) := ml25 7 _ hl23 rfl
  refine gx_ld (i := 7) (d := 0) (v := .inl n122) rfl (fun _ => rfl) l25_7 rfl rfl ?_
  refine gx_ld (i := 8) (d := 0) (v := .inl n124) rfl (fun _ => rfl) hl25 rfl rfl ?_
  by_cases hc26 : n124 ≤ n122
  · refine gx_2t (c := .ge) rfl (by first | decide | omega) (by first | decide | omega) hc26 rfl ?_
    refine gx_ld (i := 8) (d := 0) (v := .inl n124) rfl (fun _ => rfl) hl25 rfl rfl ?_
    refine gx_sto (i := 9) (d := 0) rfl (fun _ => rfl) rfl rfl (fun l27 hl27 ml27 => ?_)
    have l27_0 : en_ld l27 0 = some (gx_r 383) := ml27 0 _ l25_0 rfl
    have l27_1 : en_ld l27 1 = some (.inl a) := ml27 1 _ l25_1 rfl
    have l27_2 : en_ld l27 2 = some (.inl b) := ml27 2 _ l25_2 rfl
    have l27_3 : en_ld l27 3 = some (.inl 0) := ml27 3 _ l25_3 rfl
    have l27_4 : en_ld l27 4 = some (.inl 4294967295) := ml27 4 _ l25_4 rfl
    have l27_5 : en_ld l27 5 = some (.inl 0) := ml27 5 _ l25_5 rfl
    have l27_6 : en_ld l27 6 = some (.inl 1) := ml27 6 _ l25_6 rfl
    have l27_7 : en_ld l27 7 = some (.inl n122) := ml27 7 _ l25_7 rfl
    have l27_8 : en_ld l27 8 = some (.inl n124) := ml27 8 _ hl25 rfl
    have hm9 := sh_min (m := n124) hN (show (a - 0) + (b + 0) = a + b by omega) hn122 hn124 (by first | decide | omega) (by first | decide | omega) (Or.inr rfl)
    refine gx_ld (i := 9) (d := 0) (v := .inl n124) rfl (fun _ => rfl) hl27 rfl rfl ?_
    refine gx_ld (i := 4) (d := 0) (v := .inl 4294967295) rfl (fun _ => rfl) l27_4 rfl rfl ?_
    refine gx_2mf (c := .le) rfl (by first | decide | omega) rfl rfl ?_
    refine gx_ld (i := 6) (d := 0) (v := .inl 1) rfl (fun _ => rfl) l27_6 rfl rfl ?_
    refine gx_ld (i := 5) (d := 0) (v := .inl 0) rfl (fun _ => rfl) l27_5 rfl rfl ?_
    refine ex_go (S := (236, l27, [.inl 0], t0, n, 0)) rfl (fun _ => rfl) rfl ?_
    refine ex_go (S := (240, l27, [.inl 0], t0, n, 0)) rfl (fun _ => rfl) rfl ?_
    refine gx_sto (i := 3) (d := 0) rfl (fun _ => rfl) rfl rfl (fun l28 hl28 ml28 => ?_)
    have l28_0 : en_ld l28 0 = some (gx_r 383) := ml28 0 _ l27_0 rfl
    have l28_1 : en_ld l28 1 = some (.inl a) := ml28 1 _ l27_1 rfl
    have l28_2 : en_ld l28 2 = some (.inl b) := ml28 2 _ l27_2 rfl
    have l28_4 : en_ld l28 4 = some (.inl 4294967295) := ml28 4 _ l27_4 rfl
    have l28_5 : en_ld l28 5 = some (.inl 0) := ml28 5 _ l27_5 rfl
    have l28_6 : en_ld l28 6 = some (.inl 1) := ml28 6 _ l27_6 rfl
    have l28_7 : en_ld l28 7 = some (.inl n122) := ml28 7 _ l27_7 rfl
    have l28_8 : en_ld l28 8 = some (.inl n124) := ml28 8 _ l27_8 rfl
    have l28_9 : en_ld l28 9 = some (.inl n124) := ml28 9 _ hl27 rfl
    refine gx_ld (i := 9) (d := 0) (v := .inl n124) rfl (fun _ => rfl) l28_9 rfl rfl ?_
    refine gx_ld (i := 4) (d := 0) (v := .inl 4294967295) rfl (fun _ => rfl) l28_4 rfl rfl ?_
    refine gx_2mf (c := .le) rfl (by first | decide | omega) rfl rfl ?_
    refine gx_ld (i := 9) (d := 0) (v := .inl n124) rfl (fun _ => rfl) l28_9 rfl rfl ?_
    refine ex_go (S := (255, l28, [.inl n124], t0, n, 0)) rfl (fun _ => rfl) rfl ?_
    refine gx_sto (i := 4) (d := 0) rfl (fun _ => rfl) rfl rfl (fun l29 hl29 ml29 => ?_)
    have l29_0 : en_ld l29 0 = some (gx_r 383) := ml29 0 _ l28_0 rfl
    have l29_1 : en_ld l29 1 = some (.inl a) := ml29 1 _ l28_1 rfl
    have l29_2 : en_ld l29 2 = some (.inl b) := ml29 2 _ l28_2 rfl
    have l29_5 : en_ld l29 5 = some (.inl 0) := ml29 5 _ l28_5 rfl
    have l29_6 : en_ld l29 6 = some (.inl 1) := ml29 6 _ l28_6 rfl
    have l29_7 : en_ld l29 7 = some (.inl n122) := ml29 7 _ l28_7 rfl
    have l29_8 : en_ld l29 8 = some (.inl n124) := ml29 8 _ l28_8 rfl
    have l29_9 : en_ld l29 9 = some (.inl n124) := ml29 9 _ l28_9 rfl
    have l29_3 : en_ld l29 3 = some (.inl 0) := ml29 3 _ hl28 rfl
    exact hQ _ _ _ (by first | decide | omega) (FP_0 hfg hm9) l29_0 l29_1 l29_2 l29_3 hl29 l29_5 l29_6
  · refine gx_2f (c := .ge) rfl (by first | decide | omega) (by first | decide | omega) hc26 rfl ?_
    refine gx_ld (i := 7) (d := 0) (v := .inl n122) rfl (fun _ => rfl) l25_7 rfl rfl ?_
    refine ex_go (S := (222, l25, [.inl n122], t0, n, 0)) rfl (fun _ => rfl) rfl ?_
    refine gx_sto (i := 9) (d := 0) rfl (fun _ => rfl) rfl rfl (fun l30 hl30 ml30 => ?_)
    have l30_0 : en_ld l30 0 = some (gx_r 383) := ml30 0 _ l25_0 rfl
    have l30_1 : en_ld l30 1 = some (.inl a) := ml30 1 _ l25_1 rfl
    have l30_2 : en_ld l30 2 = some (.inl b) := ml30 2 _ l25_2 rfl
    have l30_3 : en_ld l30 3 = some (.inl 0) := ml30 3 _ l25_3 rfl
    have l30_4 : en_ld l30 4 = some (.inl 4294967295) := ml30 4 _ l25_4 rfl
    have l30_5 : en_ld l30 5 = some (.inl 0) := ml30 5 _ l25_5 rfl
    have l30_6 : en_ld l30 6 = some (.inl 1) := ml30 6 _ l25_6 rfl
    have l30_7 : en_ld l30 7 = some (.inl n122) := ml30 7 _ l25_7 rfl
    have l30_8 : en_ld l30 8 = some (.inl n124) := ml30 8 _ hl25 rfl
    have hm9 := sh_min (m := n122) hN (show (a - 0) + (b + 0) = a + b by omega) hn122 hn124 (by first | decide | omega) (by first | decide | omega) (Or.inl rfl)
    refine gx_ld (i := 9) (d := 0) (v := .inl n122) rfl (fun _ => rfl) hl30 rfl rfl ?_
    refine gx_ld (i := 4) (d := 0) (v := .inl 4294967295) rfl (fun _ => rfl) l30_4 rfl rfl ?_
    refine gx_2mf (c := .le) rfl (by first | decide | omega) rfl rfl ?_
    refine gx_ld (i := 6) (d := 0) (v := .inl 1) rfl (fun _ => rfl) l30_6 rfl rfl ?_
    refine gx_ld (i := 5) (d := 0) (v := .inl 0) rfl (fun _ => rfl) l30_5 rfl rfl ?_
    refine ex_go (S := (236, l30, [.inl 0], t0, n, 0)) rfl (fun _ => rfl) rfl ?_
    refine ex_go (S := (240, l30, [.inl 0], t0, n, 0)) rfl (fun _ => rfl) rfl ?_
    refine gx_sto (i := 3) (d := 0) rfl (fun _ => rfl) rfl rfl (fun l31 hl31 ml31 => ?_)
    have l31_0 : en_ld l31 0 = some (gx_r 383) := ml31 0 _ l30_0 rfl
    have l31_1 : en_ld l31 1 = some (.inl a) := ml31 1 _ l30_1 rfl
    have l31_2 : en_ld l31 2 = some (.inl b) := ml31 2 _ l30_2 rfl
    have l31_4 : en_ld l31 4 = some (.inl 4294967295) := ml31 4 _ l30_4 rfl
    have l31_5 : en_ld l31 5 = some (.inl 0) := ml31 5 _ l30_5 rfl
    have l31_6 : en_ld l31 6 = some (.inl 1) := ml31 6 _ l30_6 rfl
    have l31_7 : en_ld l31 7 = some (.inl n122) := ml31 7 _ l30_7 rfl
    have l31_8 : en_ld l31 8 = some (.inl n124) := ml31 8 _ l30_8 rfl
    have l31_9 : en_ld l31 9 = some (.inl n122) := ml31 9 _ hl30 rfl
    refine gx_ld (i := 9) (d := 0) (v := .inl n122) rfl (fun _ => rfl) l31_9 rfl rfl ?_
    refine gx_ld (i := 4) (d := 0) (v := .inl 4294967295) rfl (fun _ => rfl) l31_4 rfl rfl ?_
    refine gx_2mf (c := .le) rfl (by first | decide | omega) rfl rfl ?_
    refine gx_ld (i := 9) (d := 0) (v := .inl n122) rfl (fun _ => rfl) l31_9 rfl rfl ?_
    refine ex_go (S := (255, l31, [.inl n122], t0, n, 0)) rfl (fun _ => rfl) rfl ?_
    refine gx_sto (i := 4) (d := 0) rfl (fun _ => rfl) rfl rfl (fun l32 hl32 ml32 => ?_)
    have l32_0 : en_ld l32 0 = some (gx_r 383) := ml32 0 _ l31_0 rfl
    have l32_1 : en_ld l32 1 = some (.inl a) := ml32 1 _ l31_1 rfl
    have l32_2 : en_ld l32 2 = some (.inl b) := ml32 2 _ l31_2 rfl
    have l32_5 : en_ld l32 5 = some (.inl 0) := ml32 5 _ l31_5 rfl
    have l32_6 : en_ld l32 6 = some (.inl 1) := ml32 6 _ l31_6 rfl
    have l32_7 : en_ld l32 7 = some (.inl n122) := ml32 7 _ l31_7 rfl
    have l32_8 : en_ld l32 8 = some (.inl n124) := ml32 8 _ l31_8 rfl
    have l32_9 : en_ld l32 9 = some (.inl n122) := ml32 9 _ l31_9 rfl
    have l32_3 : en_ld l32 3 = some (.inl 0) := ml32 3 _ hl31 rfl
    exact hQ _ _ _ (by first | decide | omega) (FP_0 hfg hm9) l32_0 l32_1 l32_2 l32_3 hl32 l32_5 l32_6
theorem sh_p (d n : Nat) {t0 : en_H} {a b N v be mo : Nat} {e e' : Nat → Nat} {Q : en_O → Prop} (g0 : ai_HG ah_G t0) (ha : a ≤ 19998) (hb : b ≤ 19998) (hS0 : ∀ i, i ≤ 200 → ai_hv t0 404 i = some (.inl (psm e i))) (hS1 : ∀ i, i ≤ 200 → ai_hv t0 404 (201 + i) = some (.inl (psm e' i))) (he : ∀ k, e k ≤ 99) (he' : ∀ k, e' k ≤ 99) (hN : Nsp (psm e) (psm e') (a + b) N) (h1 : 1 ≤ v) (hv : v ≤ 20000) (hF : FI a b (psm e N) (psm e' N) N v be mo) (hmo : mo ≤ 200) (hQ : ∀ cl be mo, mo ≤ 200 → FP a b (psm e N) (psm e' N) N v be mo → en_ld cl 0 = some (gx_r 383) → en_ld cl 1 = some (.inl a) → en_ld cl 2 = some (.inl b) → en_ld cl 3 = some (.inl be) → en_ld cl 4 = some (.inl mo) → en_ld cl 5 = some (.inl v) → en_ld cl 6 = some (.inl 1) → en_ex none (en_u (d + 4)) (en_code 70) (fun _ => false) (257, cl, [], t0, n, 0) Q) {cl : en_L} : en_ld cl 0 = some (gx_r 383) → en_ld cl 1 = some (.inl a) → en_ld cl 2 = some (.inl b) → en_ld cl 3 = some (.inl be) → en_ld cl 4 = some (.inl mo) → en_ld cl 5 = some (.inl v) → en_ex none (en_u (d + 4)) (en_code 70) (fun _ => false) (150, cl, [], t0, n, 0) Q := by
  intro h0 h1' h2 h3 h4 h5
  have hfg := hN.2.1
  refine ex_go (S := (151, cl, [.inl 1], t0, n, 0)) rfl (fun _ => rfl) rfl ?_
  refine gx_sto (i := 6) (d := 0) rfl (fun _ => rfl) rfl rfl (fun l21 hl21 ml21 => ?_)
  have l21_0 : en_ld l21 0 = some (gx_r 383) := ml21 0 _ h0 rfl
  have l21_1 : en_ld l21 1 = some (.inl a) := ml21 1 _ h1' rfl
  have l21_2 : en_ld l21 2 = some (.inl b) := ml21 2 _ h2 rfl
  have l21_3 : en_ld l21 3 = some (.inl be) := ml21 3 _ h3 rfl
  have l21_4 : en_ld l21 4 = some (.inl mo) := ml21 4 _ h4 rfl
  have l21_5 : en_ld l21 5 = some (.inl v) := ml21 5 _ h5 rfl
  refine gx_ld (i := 6) (d := 0) (v := .inl 1) rfl (fun _ => rfl) hl21 rfl rfl ?_
  refine ex_go (S := (157, l21, [.inl 4294967294, .inl 1], t0, n, 0)) rfl (fun _ => rfl) rfl ?_
  refine ex_go (S := (160, l21, [], t0, n, 0)) rfl (fun _ => rfl) rfl ?_
  refine gx_ld (i := 6) (d := 0) (v := .inl 1) rfl (fun _ => rfl) hl21 rfl rfl ?_
  refine ex_go (S := (165, l21, [], t0, n, 0)) rfl (fun _ => rfl) rfl ?_
  refine gx_ld (i := 5) (d := 0) (v := .inl v) rfl (fun _ => rfl) l21_5 rfl rfl ?_
  refine gx_ld (i := 1) (d := 0) (v := .inl a) rfl (fun _ => rfl) l21_1 rfl rfl ?_
  by_cases hc22 : a < v
  · refine gx_2t (c := .gt) rfl (by first | decide | omega) (by first | decide | omega) hc22 rfl ?_
    exact hQ _ _ _ (by first | decide | omega) (FP_skip hfg hF h1 (by first | decide | omega)) l21_0 l21_1 l21_2 l21_3 l21_4 l21_5 hl21
  · refine gx_2f (c := .gt) rfl (by first | decide | omega) (by first | decide | omega) hc22 rfl ?_
    refine ex_go (S := (180, l21, [], t0, n, 0)) rfl (fun _ => rfl) rfl ?_
    refine gx_ld (i := 0) (d := 2) (v := gx_r 383) rfl (fun _ => rfl) l21_0 rfl rfl ?_
    refine ex_go (S := (182, l21, [.inl 0, gx_r 383], t0, n, 0)) rfl (fun _ => rfl) rfl ?_
    refine gx_ld (i := 1) (d := 0) (v := .inl a) rfl (fun _ => rfl) l21_1 rfl rfl ?_
    refine gx_ld (i := 6) (d := 0) (v := .inl 1) rfl (fun _ => rfl) hl21 rfl rfl ?_
    refine gx_ld (i := 5) (d := 0) (v := .inl v) rfl (fun _ => rfl) l21_5 rfl rfl ?_
    refine gx_imul rfl (by first | decide | omega) rfl ?_
    refine gx_isub rfl (by first | decide | omega) (by first | decide | omega) rfl ?_
    obtain ⟨_, r123, n123, rfl, hn123⟩ := sh_lastsBy (d + 3) n (c := 0) (x := a - (1 * v)) (e := e) g0 (by decide) (by first | decide | omega) he (fun i hi => by rw [show 201 * 0 + i = i by omega]; exact hS0 i hi)
    have hl123 := hn123.1
    refine gx_call1 rfl rfl g0 rfl rfl r123 rfl ?_
    show en_ex _ _ _ _ (192, l21, [.inl n123], t0, n, 0) _
    refine gx_sto (i := 7) (d := 0) rfl (fun _ => rfl) rfl rfl (fun l24 hl24 ml24 => ?_)
    have l24_0 : en_ld l24 0 = some (gx_r 383) := ml24 0 _ l21_0 rfl
    have l24_1 : en_ld l24 1 = some (.inl a) := ml24 1 _ l21_1 rfl
    have l24_2 : en_ld l24 2 = some (.inl b) := ml24 2 _ l21_2 rfl
    have l24_3 : en_ld l24 3 = some (.inl be) := ml24 3 _ l21_3 rfl
    have l24_4 : en_ld l24 4 = some (.inl mo) := ml24 4 _ l21_4 rfl
    have l24_5 : en_ld l24 5 = some (.inl v) := ml24 5 _ l21_5 rfl
    have l24_6 : en_ld l24 6 = some (.inl 1) := ml24 6 _ hl21 rfl
    refine gx_ld (i := 0) (d := 2) (v := gx_r 383) rfl (fun _ => rfl) l24_0 rfl rfl ?_
    refine ex_go (S := (196, l24, [.inl 1, gx_r 383], t0, n, 0)) rfl (fun _ => rfl) rfl ?_
    refine gx_ld (i := 2) (d := 0) (v := .inl b) rfl (fun _ => rfl) l24_2 rfl rfl ?_
    refine gx_ld (i := 6) (d := 0) (v := .inl 1) rfl (fun _ => rfl) l24_6 rfl rfl ?_
    refine gx_ld (i := 5) (d := 0) (v := .inl v) rfl (fun _ => rfl) l24_5 rfl rfl ?_
    refine gx_imul rfl (by first | decide | omega) rfl ?_
    refine ex_iadd rfl (by first | decide | omega) rfl ?_
    obtain ⟨_, r125, n125, rfl, hn125⟩ := sh_lastsBy (d + 3) n (c := 1) (x := b + (1 * v)) (e := e') g0 (by decide) (by first | decide | omega) he' (fun i hi => hS1 i hi)
    have hl125 := hn125.1
    refine gx_call1 rfl rfl g0 rfl rfl r125 rfl ?_
    show en_ex _ _ _ _ (206, l24, [.inl n125], t0, n, 0) _
    refine gx_sto (i := 8) (d := 0) rfl (fun _ => rfl) rfl rfl (fun l26 hl26 ml26 => ?_)
    have l26_0 : en_ld l26 0 = some (gx_r 383) := ml26 0 _ l24_0 rfl
    have l26_1 : en_ld l26 1 = some (.inl a) := ml26 1 _ l24_1 rfl
    have l26_2 : en_ld l26 2 = some (.inl b) := ml26 2 _ l24_2 rfl
    have l26_3 : en_ld l26 3 = some (.inl be) := ml26 3 _ l24_3 rfl
    have l26_4 : en_ld l26 4 = some (.inl mo) := ml26 4 _ l24_4 rfl
    have l26_5 : en_ld l26 5 = some (.inl v) := ml26 5 _ l24_5 rfl
    have l26_6 : en_ld l26 6 = some (.inl 1) := ml26 6 _ l24_6 rfl
    have l26_7 : en_ld l26 7 = some (.inl n123) := ml26 7 _ hl24 rfl
    refine gx_ld (i := 7) (d := 0) (v := .inl n123) rfl (fun _ => rfl) l26_7 rfl rfl ?_
    refine gx_ld (i := 8) (d := 0) (v := .inl n125) rfl (fun _ => rfl) hl26 rfl rfl ?_
    by_cases hc27 : n125 ≤ n123
    · refine gx_2t (c := .ge) rfl (by first | decide | omega) (by first | decide | omega) hc27 rfl ?_
      refine gx_ld (i := 8) (d := 0) (v := .inl n125) rfl (fun _ => rfl) hl26 rfl rfl ?_
      refine gx_sto (i := 9) (d := 0) rfl (fun _ => rfl) rfl rfl (fun l28 hl28 ml28 => ?_)
      have l28_0 : en_ld l28 0 = some (gx_r 383) := ml28 0 _ l26_0 rfl
      have l28_1 : en_ld l28 1 = some (.inl a) := ml28 1 _ l26_1 rfl
      have l28_2 : en_ld l28 2 = some (.inl b) := ml28 2 _ l26_2 rfl
      have l28_3 : en_ld l28 3 = some (.inl be) := ml28 3 _ l26_3 rfl
      have l28_4 : en_ld l28 4 = some (.inl mo) := ml28 4 _ l26_4 rfl
      have l28_5 : en_ld l28 5 = some (.inl v) := ml28 5 _ l26_5 rfl
      have l28_6 : en_ld l28 6 = some (.inl 1) := ml28 6 _ l26_6 rfl
      have l28_7 : en_ld l28 7 = some (.inl n123) := ml28 7 _ l26_7 rfl
      have l28_8 : en_ld l28 8 = some (.inl n125) := ml28 8 _ hl26 rfl
      have hm9 := sh_min (m := n125) hN (show (a - (1 * v)) + (b + (1 * v)) = a + b by omega) hn123 hn125 (by first | decide | omega) (by first | decide | omega) (Or.inr rfl)
      refine gx_ld (i := 9) (d := 0) (v := .inl n125) rfl (fun _ => rfl) hl28 rfl rfl ?_
      refine gx_ld (i := 4) (d := 0) (v := .inl mo) rfl (fun _ => rfl) l28_4 rfl rfl ?_
      by_cases hc29 : n125 ≤ mo
      · refine gx_2t (c := .le) rfl (by first | decide | omega) (by first | decide | omega) hc29 rfl ?_
        refine gx_ld (i := 3) (d := 0) (v := .inl be) rfl (fun _ => rfl) l28_3 rfl rfl ?_
        refine gx_sto (i := 3) (d := 0) rfl (fun _ => rfl) rfl rfl (fun l30 hl30 ml30 => ?_)
        have l30_0 : en_ld l30 0 = some (gx_r 383) := ml30 0 _ l28_0 rfl
        have l30_1 : en_ld l30 1 = some (.inl a) := ml30 1 _ l28_1 rfl
        have l30_2 : en_ld l30 2 = some (.inl b) := ml30 2 _ l28_2 rfl
        have l30_4 : en_ld l30 4 = some (.inl mo) := ml30 4 _ l28_4 rfl
        have l30_5 : en_ld l30 5 = some (.inl v) := ml30 5 _ l28_5 rfl
        have l30_6 : en_ld l30 6 = some (.inl 1) := ml30 6 _ l28_6 rfl
        have l30_7 : en_ld l30 7 = some (.inl n123) := ml30 7 _ l28_7 rfl
        have l30_8 : en_ld l30 8 = some (.inl n125) := ml30 8 _ l28_8 rfl
        have l30_9 : en_ld l30 9 = some (.inl n125) := ml30 9 _ hl28 rfl
        refine gx_ld (i := 9) (d := 0) (v := .inl n125) rfl (fun _ => rfl) l30_9 rfl rfl ?_
        refine gx_ld (i := 4) (d := 0) (v := .inl mo) rfl (fun _ => rfl) l30_4 rfl rfl ?_
        refine gx_2t (c := .le) rfl (by first | decide | omega) (by first | decide | omega) (show n125 ≤ mo from by omega) rfl ?_
        refine gx_ld (i := 4) (d := 0) (v := .inl mo) rfl (fun _ => rfl) l30_4 rfl rfl ?_
        refine gx_sto (i := 4) (d := 0) rfl (fun _ => rfl) rfl rfl (fun l31 hl31 ml31 => ?_)
        have l31_0 : en_ld l31 0 = some (gx_r 383) := ml31 0 _ l30_0 rfl
        have l31_1 : en_ld l31 1 = some (.inl a) := ml31 1 _ l30_1 rfl
        have l31_2 : en_ld l31 2 = some (.inl b) := ml31 2 _ l30_2 rfl
        have l31_5 : en_ld l31 5 = some (.inl v) := ml31 5 _ l30_5 rfl
        have l31_6 : en_ld l31 6 = some (.inl 1) := ml31 6 _ l30_6 rfl
        have l31_7 : en_ld l31 7 = some (.inl n123) := ml31 7 _ l30_7 rfl
        have l31_8 : en_ld l31 8 = some (.inl n125) := ml31 8 _ l30_8 rfl
        have l31_9 : en_ld l31 9 = some (.inl n125) := ml31 9 _ l30_9 rfl
        have l31_3 : en_ld l31 3 = some (.inl be) := ml31 3 _ hl30 rfl
        exact hQ _ _ _ (by first | decide | omega) (FP_keep hfg hF h1 hm9 (by first | decide | omega) (by first | decide | omega)) l31_0 l31_1 l31_2 l31_3 hl31 l31_5 l31_6
      · refine gx_2f (c := .le) rfl (by first | decide | omega) (by first | decide | omega) hc29 rfl ?_
        refine gx_ld (i := 6) (d := 0) (v := .inl 1) rfl (fun _ => rfl) l28_6 rfl rfl ?_
        refine gx_ld (i := 5) (d := 0) (v := .inl v) rfl (fun _ => rfl) l28_5 rfl rfl ?_
        refine gx_imul rfl (by first | decide | omega) rfl ?_
        refine ex_go (S := (240, l28, [.inl (1 * v)], t0, n, 0)) rfl (fun _ => rfl) rfl ?_
        refine gx_sto (i := 3) (d := 0) rfl (fun _ => rfl) rfl rfl (fun l32 hl32 ml32 => ?_)
        have l32_0 : en_ld l32 0 = some (gx_r 383) := ml32 0 _ l28_0 rfl
        have l32_1 : en_ld l32 1 = some (.inl a) := ml32 1 _ l28_1 rfl
        have l32_2 : en_ld l32 2 = some (.inl b) := ml32 2 _ l28_2 rfl
        have l32_4 : en_ld l32 4 = some (.inl mo) := ml32 4 _ l28_4 rfl
        have l32_5 : en_ld l32 5 = some (.inl v) := ml32 5 _ l28_5 rfl
        have l32_6 : en_ld l32 6 = some (.inl 1) := ml32 6 _ l28_6 rfl
        have l32_7 : en_ld l32 7 = some (.inl n123) := ml32 7 _ l28_7 rfl
        have l32_8 : en_ld l32 8 = some (.inl n125) := ml32 8 _ l28_8 rfl
        have l32_9 : en_ld l32 9 = some (.inl n125) := ml32 9 _ hl28 rfl
        refine gx_ld (i := 9) (d := 0) (v := .inl n125) rfl (fun _ => rfl) l32_9 rfl rfl ?_
        refine gx_ld (i := 4) (d := 0) (v := .inl mo) rfl (fun _ => rfl) l32_4 rfl rfl ?_
        refine gx_2f (c := .le) rfl (by first | decide | omega) (by first | decide | omega) (show ¬ (n125 ≤ mo) from by omega) rfl ?_
        refine gx_ld (i := 9) (d := 0) (v := .inl n125) rfl (fun _ => rfl) l32_9 rfl rfl ?_
        refine ex_go (S := (255, l32, [.inl n125], t0, n, 0)) rfl (fun _ => rfl) rfl ?_
        refine gx_sto (i := 4) (d := 0) rfl (fun _ => rfl) rfl rfl (fun l33 hl33 ml33 => ?_)
        have l33_0 : en_ld l33 0 = some (gx_r 383) := ml33 0 _ l32_0 rfl
        have l33_1 : en_ld l33 1 = some (.inl a) := ml33 1 _ l32_1 rfl
        have l33_2 : en_ld l33 2 = some (.inl b) := ml33 2 _ l32_2 rfl
        have l33_5 : en_ld l33 5 = some (.inl v) := ml33 5 _ l32_5 rfl
        have l33_6 : en_ld l33 6 = some (.inl 1) := ml33 6 _ l32_6 rfl
        have l33_7 : en_ld l33 7 = some (.inl n123) := ml33 7 _ l32_7 rfl
        have l33_8 : en_ld l33 8 = some (.inl n125) := ml33 8 _ l32_8 rfl
        have l33_9 : en_ld l33 9 = some (.inl n125) := ml33 9 _ l32_9 rfl
        have l33_3 : en_ld l33 3 = some (.inl (1 * v)) := ml33 3 _ hl32 rfl
        exact hQ _ _ _ (by first | decide | omega) (FP_take hfg hF h1 hm9 (by first | decide | omega) (by first | decide | omega)) l33_0 l33_1 l33_2 l33_3 hl33 l33_5 l33_6
    · refine gx_2f (c := .ge) rfl (by first | decide | omega) (by first | decide | omega) hc27 rfl ?_
      refine gx_ld (i := 7) (d := 0) (v := .inl n123) rfl (fun _ => rfl) l26_7 rfl rfl ?_
      refine ex_go (S := (222, l26, [.inl n123], t0, n, 0)) rfl (fun _ => rfl) rfl ?_
      refine gx_sto (i := 9) (d := 0) rfl (fun _ => rfl) rfl rfl (fun l34 hl34 ml34 => ?_)
      have l34_0 : en_ld l34 0 = some (gx_r 383) := ml34 0 _ l26_0 rfl
      have l34_1 : en_ld l34 1 = some (.inl a) := ml34 1 _ l26_1 rfl
      have l34_2 : en_ld l34 2 = some (.inl b) := ml34 2 _ l26_2 rfl
      have l34_3 : en_ld l34 3 = some (.inl be) := ml34 3 _ l26_3 rfl
      have l34_4 : en_ld l34 4 = some (.inl mo) := ml34 4 _ l26_4 rfl
      have l34_5 : en_ld l34 5 = some (.inl v) := ml34 5 _ l26_5 rfl
      have l34_6 : en_ld l34 6 = some (.inl 1) := ml34 6 _ l26_6 rfl
      have l34_7 : en_ld l34 7 = some (.inl n123) := ml34 7 _ l26_7 rfl
      have l34_8 : en_ld l34 8 = some (.inl n125) := ml34 8 _ hl26 rfl
      have hm9 := sh_min (m := n123) hN (show (a - (1 * v)) + (b + (1 * v)) = a + b by omega) hn123 hn125 (by first | decide | omega) (by first | decide | omega) (Or.inl rfl)
      refine gx_ld (i := 9) (d := 0) (v := .inl n123) rfl (fun _ => rfl) hl34 rfl rfl ?_
      refine gx_ld (i := 4) (d := 0) (v := .inl mo) rfl (fun _ => rfl) l34_4 rfl rfl ?_
      by_cases hc35 : n123 ≤ mo
      · refine gx_2t (c := .le) rfl (by first | decide | omega) (by first | decide | omega) hc35 rfl ?_
        refine gx_ld (i := 3) (d := 0) (v := .inl be) rfl (fun _ => rfl) l34_3 rfl rfl ?_
        refine gx_sto (i := 3) (d := 0) rfl (fun _ => rfl) rfl rfl (fun l36 hl36 ml36 => ?_)
        have l36_0 : en_ld l36 0 = some (gx_r 383) := ml36 0 _ l34_0 rfl
        have l36_1 : en_ld l36 1 = some (.inl a) := ml36 1 _ l34_1 rfl
        have l36_2 : en_ld l36 2 = some (.inl b) := ml36 2 _ l34_2 rfl
        have l36_4 : en_ld l36 4 = some (.inl mo) := ml36 4 _ l34_4 rfl
        have l36_5 : en_ld l36 5 = some (.inl v) := ml36 5 _ l34_5 rfl
        have l36_6 : en_ld l36 6 = some (.inl 1) := ml36 6 _ l34_6 rfl
        have l36_7 : en_ld l36 7 = some (.inl n123) := ml36 7 _ l34_7 rfl
        have l36_8 : en_ld l36 8 = some (.inl n125) := ml36 8 _ l34_8 rfl
        have l36_9 : en_ld l36 9 = some (.inl n123) := ml36 9 _ hl34 rfl
        refine gx_ld (i := 9) (d := 0) (v := .inl n123) rfl (fun _ => rfl) l36_9 rfl rfl ?_
        refine gx_ld (i := 4) (d := 0) (v := .inl mo) rfl (fun _ => rfl) l36_4 rfl rfl ?_
        refine gx_2t (c := .le) rfl (by first | decide | omega) (by first | decide | omega) (show n123 ≤ mo from by omega) rfl ?_
        refine gx_ld (i := 4) (d := 0) (v := .inl mo) rfl (fun _ => rfl) l36_4 rfl rfl ?_
        refine gx_sto (i := 4) (d := 0) rfl (fun _ => rfl) rfl rfl (fun l37 hl37 ml37 => ?_)
        have l37_0 : en_ld l37 0 = some (gx_r 383) := ml37 0 _ l36_0 rfl
        have l37_1 : en_ld l37 1 = some (.inl a) := ml37 1 _ l36_1 rfl
        have l37_2 : en_ld l37 2 = some (.inl b) := ml37 2 _ l36_2 rfl
        have l37_5 : en_ld l37 5 = some (.inl v) := ml37 5 _ l36_5 rfl
        have l37_6 : en_ld l37 6 = some (.inl 1) := ml37 6 _ l36_6 rfl
        have l37_7 : en_ld l37 7 = some (.inl n123) := ml37 7 _ l36_7 rfl
        have l37_8 : en_ld l37 8 = some (.inl n125) := ml37 8 _ l36_8 rfl
        have l37_9 : en_ld l37 9 = some (.inl n123) := ml37 9 _ l36_9 rfl
        have l37_3 : en_ld l37 3 = some (.inl be) := ml37 3 _ hl36 rfl
        exact hQ _ _ _ (by first | decide | omega) (FP_keep hfg hF h1 hm9 (by first | decide | omega) (by first | decide | omega)) l37_0 l37_1 l37_2 l37_3 hl37 l37_5 l37_6
      · refine gx_2f (c := .le) rfl (by first | decide | omega) (by first | decide | omega) hc35 rfl ?_
        refine gx_ld (i := 6) (d := 0) (v := .inl 1) rfl (fun _ => rfl) l34_6 rfl rfl ?_
        refine gx_ld (i := 5) (d := 0) (v := .inl v) rfl (fun _ => rfl) l34_5 rfl rfl ?_
        refine gx_imul rfl (by first | decide | omega) rfl ?_
        refine ex_go (S := (240, l34, [.inl (1 * v)], t0, n, 0)) rfl (fun _ => rfl) rfl ?_
        refine gx_sto (i := 3) (d := 0) rfl (fun _ => rfl) rfl rfl (fun l38 hl38 ml38 => ?_)
        have l38_0 : en_ld l38 0 = some (gx_r 383) := ml38 0 _ l34_0 rfl
        have l38_1 : en_ld l38 1 = some (.inl a) := ml38 1 _ l34_1 rfl
        have l38_2 : en_ld l38 2 = some (.inl b) := ml38 2 _ l34_2 rfl
        have l38_4 : en_ld l38 4 = some (.inl mo) := ml38 4 _ l34_4 rfl
        have l38_5 : en_ld l38 5 = some (.inl v) := ml38 5 _ l34_5 rfl
        have l38_6 : en_ld l38 6 = some (.inl 1) := ml38 6 _ l34_6 rfl
        have l38_7 : en_ld l38 7 = some (.inl n123) := ml38 7 _ l34_7 rfl
        have l38_8 : en_ld l38 8 = some (.inl n125) := ml38 8 _ l34_8 rfl
        have l38_9 : en_ld l38 9 = some (.inl n123) := ml38 9 _ hl34 rfl
        refine gx_ld (i := 9) (d := 0) (v := .inl n123) rfl (fun _ => rfl) l38_9 rfl rfl ?_
        refine gx_ld (i := 4) (d := 0) (v := .inl mo) rfl (fun _ => rfl) l38_4 rfl rfl ?_
        refine gx_2f (c := .le) rfl (by first | decide | omega) (by first | decide | omega) (show ¬ (n123 ≤ mo) from by omega) rfl ?_
        refine gx_ld (i := 9) (d := 0) (v := .inl n123) rfl (fun _ => rfl) l38_9 rfl rfl ?_
        refine ex_go (S := (255, l38, [.inl n123], t0, n, 0)) rfl (fun _ => rfl) rfl ?_
        refine gx_sto (i := 4) (d := 0) rfl (fun _ => rfl) rfl rfl (fun l39 hl39 ml39 => ?_)
        have l39_0 : en_ld l39 0 = some (gx_r 383) := ml39 0 _ l38_0 rfl
        have l39_1 : en_ld l39 1 = some (.inl a) := ml39 1 _ l38_1 rfl
        have l39_2 : en_ld l39 2 = some (.inl b) := ml39 2 _ l38_2 rfl
        have l39_5 : en_ld l39 5 = some (.inl v) := ml39 5 _ l38_5 rfl
        have l39_6 : en_ld l39 6 = some (.inl 1) := ml39 6 _ l38_6 rfl
        have l39_7 : en_ld l39 7 = some (.inl n123) := ml39 7 _ l38_7 rfl
        have l39_8 : en_ld l39 8 = some (.inl n125) := ml39 8 _ l38_8 rfl
        have l39_9 : en_ld l39 9 = some (.inl n123) := ml39 9 _ l38_9 rfl
        have l39_3 : en_ld l39 3 = some (.inl (1 * v)) := ml39 3 _ hl38 rfl
        exact hQ _ _ _ (by first | decide | omega) (FP_take hfg hF h1 hm9 (by first | decide | omega) (by first | decide | omega)) l39_0 l39_1 l39_2 l39_3 hl39 l39_5 l39_6
theorem sh_m (d n : Nat) {t0 : en_H} {a b N v be mo : Nat} {e e' : Nat → Nat} {Q : en_O → Prop} (g0 : ai_HG ah_G t0) (ha : a ≤ 19998) (hb : b ≤ 19998) (hS0 : ∀ i, i ≤ 200 → ai_hv t0 404 i = some (.inl (psm e i))) (hS1 : ∀ i, i ≤ 200 → ai_hv t0 404 (201 + i) = some (.inl (psm e' i))) (he : ∀ k, e k ≤ 99) (he' : ∀ k, e' k ≤ 99) (hN : Nsp (psm e) (psm e') (a + b) N) (hv : v ≤ 20000) (hF : FP a b (psm e N) (psm e' N) N v be mo) (hmo : mo ≤ 200) (hQ : ∀ cl be mo, mo ≤ 200 → FI a b (psm e N) (psm e' N) N (v + 1) be mo → en_ld cl 0 = some (gx_r 383) → en_ld cl 1 = some (.inl a) → en_ld cl 2 = some (.inl b) → en_ld cl 3 = some (.inl be) → en_ld cl 4 = some (.inl mo) → en_ld cl 5 = some (.inl (v + 1)) → en_ex none (en_u (d + 4)) (en_code 70) (fun _ => false) (138, cl, [], t0, n, 0) Q) {cl : en_L} : en_ld cl 0 = some (gx_r 383) → en_ld cl 1 = some (.inl a) → en_ld cl 2 = some (.inl b) → en_ld cl 3 = some (.inl be) → en_ld cl 4 = some (.inl mo) → en_ld cl 5 = some (.inl v) → en_ld cl 6 = some (.inl 1) → en_ex none (en_u (d + 4)) (en_code 70) (fun _ => false) (257, cl, [], t0, n, 0) Q := by
  intro h0 h1' h2 h3 h4 h5 h6
  have hfg := hN.2.1
  refine gx_incC (i := 6) (a := 1) (b := 4294967295) rfl (fun _ => rfl) h6 rfl rfl (fun l21 hl21 ml21 => ?_)
  have l21_0 : en_ld l21 0 = some (gx_r 383) := ml21 0 _ h0 rfl
  have l21_1 : en_ld l21 1 = some (.inl a) := ml21 1 _ h1' rfl
  have l21_2 : en_ld l21 2 = some (.inl b) := ml21 2 _ h2 rfl
  have l21_3 : en_ld l21 3 = some (.inl be) := ml21 3 _ h3 rfl
  have l21_4 : en_ld l21 4 = some (.inl mo) := ml21 4 _ h4 rfl
  have l21_5 : en_ld l21 5 = some (.inl v) := ml21 5 _ h5 rfl
  refine ex_go (S := (153, l21, [], t0, n, 0)) rfl (fun _ => rfl) rfl ?_
  refine gx_ld (i := 6) (d := 0) (v := .inl 4294967295) rfl (fun _ => rfl) hl21 rfl rfl ?_
  refine ex_go (S := (157, l21, [.inl 4294967294, .inl 4294967295], t0, n, 0)) rfl (fun _ => rfl) rfl ?_
  refine ex_go (S := (160, l21, [], t0, n, 0)) rfl (fun _ => rfl) rfl ?_
  refine gx_ld (i := 6) (d := 0) (v := .inl 4294967295) rfl (fun _ => rfl) hl21 rfl rfl ?_
  refine ex_go (S := (174, l21, [], t0, n, 0)) rfl (fun _ => rfl) rfl ?_
  refine gx_ld (i := 5) (d := 0) (v := .inl v) rfl (fun _ => rfl) l21_5 rfl rfl ?_
  refine gx_ld (i := 2) (d := 0) (v := .inl b) rfl (fun _ => rfl) l21_2 rfl rfl ?_
  by_cases hc22 : b < v
  · refine gx_2t (c := .gt) rfl (by first | decide | omega) (by first | decide | omega) hc22 rfl ?_
    refine gx_incC (i := 6) (a := 4294967295) (b := 4294967293) rfl (fun _ => rfl) hl21 rfl rfl (fun l23 hl23 ml23 => ?_)
    have l23_0 : en_ld l23 0 = some (gx_r 383) := ml23 0 _ l21_0 rfl
    have l23_1 : en_ld l23 1 = some (.inl a) := ml23 1 _ l21_1 rfl
    have l23_2 : en_ld l23 2 = some (.inl b) := ml23 2 _ l21_2 rfl
    have l23_3 : en_ld l23 3 = some (.inl be) := ml23 3 _ l21_3 rfl
    have l23_4 : en_ld l23 4 = some (.inl mo) := ml23 4 _ l21_4 rfl
    have l23_5 : en_ld l23 5 = some (.inl v) := ml23 5 _ l21_5 rfl
    refine ex_go (S := (153, l23, [], t0, n, 0)) rfl (fun _ => rfl) rfl ?_
    refine gx_ld (i := 6) (d := 0) (v := .inl 4294967293) rfl (fun _ => rfl) hl23 rfl rfl ?_
    refine ex_go (S := (157, l23, [.inl 4294967294, .inl 4294967293], t0, n, 0)) rfl (fun _ => rfl) rfl ?_
    refine ex_go (S := (263, l23, [], t0, n, 0)) rfl (fun _ => rfl) rfl ?_
    refine gx_incS (i := 5) (a := v) (x := 1) rfl (fun _ => rfl) l23_5 (by first | decide | omega) rfl (fun l24 hl24 ml24 => ?_)
    have l24_0 : en_ld l24 0 = some (gx_r 383) := ml24 0 _ l23_0 rfl
    have l24_1 : en_ld l24 1 = some (.inl a) := ml24 1 _ l23_1 rfl
    have l24_2 : en_ld l24 2 = some (.inl b) := ml24 2 _ l23_2 rfl
    have l24_3 : en_ld l24 3 = some (.inl be) := ml24 3 _ l23_3 rfl
    have l24_4 : en_ld l24 4 = some (.inl mo) := ml24 4 _ l23_4 rfl
    have l24_6 : en_ld l24 6 = some (.inl 4294967293) := ml24 6 _ hl23 rfl
    refine ex_go (S := (138, l24, [], t0, n, 0)) rfl (fun _ => rfl) rfl ?_
    exact hQ _ _ _ (by first | decide | omega) (FI_skip hfg hF (by first | decide | omega)) l24_0 l24_1 l24_2 l24_3 l24_4 hl24
  · refine gx_2f (c := .gt) rfl (by first | decide | omega) (by first | decide | omega) hc22 rfl ?_
    refine gx_ld (i := 0) (d := 2) (v := gx_r 383) rfl (fun _ => rfl) l21_0 rfl rfl ?_
    refine ex_go (S := (182, l21, [.inl 0, gx_r 383], t0, n, 0)) rfl (fun _ => rfl) rfl ?_
    refine gx_ld (i := 1) (d := 0) (v := .inl a) rfl (fun _ => rfl) l21_1 rfl rfl ?_
    refine gx_ld (i := 6) (d := 0) (v := .inl 4294967295) rfl (fun _ => rfl) hl21 rfl rfl ?_
    refine gx_ld (i := 5) (d := 0) (v := .inl v) rfl (fun _ => rfl) l21_5 rfl rfl ?_
    refine ex_go (S := (188, l21, [.inl (ng v), .inl a, .inl 0, gx_r 383], t0, n, 0)) rfl (fun _ => rfl) rfl ?_
    refine gx_isubg rfl (ng_sub (by first | decide | omega) (by first | decide | omega)) rfl ?_
    show en_ex _ _ _ _ (189, l21, [.inl (a + v), .inl 0, gx_r 383], t0, n, 0) _
    obtain ⟨_, r125, n125, rfl, hn125⟩ := sh_lastsBy (d + 3) n (c := 0) (x := a + v) (e := e) g0 (by decide) (by first | decide | omega) he (fun i hi => by rw [show 201 * 0 + i = i by omega]; exact hS0 i hi)
    have hl125 := hn125.1
    refine gx_call1 rfl rfl g0 rfl rfl r125 rfl ?_
    show en_ex _ _ _ _ (192, l21, [.inl n125], t0, n, 0) _
    refine gx_sto (i := 7) (d := 0) rfl (fun _ => rfl) rfl rfl (fun l26 hl26 ml26 => ?_)
    have l26_0 : en_ld l26 0 = some (gx_r 383) := ml26 0 _ l21_0 rfl
    have l26_1 : en_ld l26 1 = some (.inl a) := ml26 1 _ l21_1 rfl
    have l26_2 : en_ld l26 2 = some (.inl b) := ml26 2 _ l21_2 rfl
    have l26_3 : en_ld l26 3 = some (.inl be) := ml26 3 _ l21_3 rfl
    have l26_4 : en_ld l26 4 = some (.inl mo) := ml26 4 _ l21_4 rfl
    have l26_5 : en_ld l26 5 = some (.inl v) := ml26 5 _ l21_5 rfl
    have l26_6 : en_ld l26 6 = some (.inl 4294967295) := ml26 6 _ hl21 rfl
    refine gx_ld (i := 0) (d := 2) (v := gx_r 383) rfl (fun _ => rfl) l26_0 rfl rfl ?_
    refine ex_go (S := (196, l26, [.inl 1, gx_r 383], t0, n, 0)) rfl (fun _ => rfl) rfl ?_
    refine gx_ld (i := 2) (d := 0) (v := .inl b) rfl (fun _ => rfl) l26_2 rfl rfl ?_
    refine gx_ld (i := 6) (d := 0) (v := .inl 4294967295) rfl (fun _ => rfl) l26_6 rfl rfl ?_
    refine gx_ld (i := 5) (d := 0) (v := .inl v) rfl (fun _ => rfl) l26_5 rfl rfl ?_
    refine ex_go (S := (202, l26, [.inl (ng v), .inl b, .inl 1, gx_r 383], t0, n, 0)) rfl (fun _ => rfl) rfl ?_
    refine ex_go (S := (203, l26, [.inl (en_wrap (b + ng v)), .inl 1, gx_r 383], t0, n, 0)) rfl (fun _ => rfl) rfl ?_
    rw [ng_add (by first | decide | omega) (by first | decide | omega)]
    obtain ⟨_, r127, n127, rfl, hn127⟩ := sh_lastsBy (d + 3) n (c := 1) (x := b - v) (e := e') g0 (by decide) (by first | decide | omega) he' (fun i hi => hS1 i hi)
    have hl127 := hn127.1
    refine gx_call1 rfl rfl g0 rfl rfl r127 rfl ?_
    show en_ex _ _ _ _ (206, l26, [.inl n127], t0, n, 0) _
    refine gx_sto (i := 8) (d := 0) rfl (fun _ => rfl) rfl rfl (fun l28 hl28 ml28 => ?_)
    have l28_0 : en_ld l28 0 = some (gx_r 383) := ml28 0 _ l26_0 rfl
    have l28_1 : en_ld l28 1 = some (.inl a) := ml28 1 _ l26_1 rfl
    have l28_2 : en_ld l28 2 = some (.inl b) := ml28 2 _ l26_2 rfl
    have l28_3 : en_ld l28 3 = some (.inl be) := ml28 3 _ l26_3 rfl
    have l28_4 : en_ld l28 4 = some (.inl mo) := ml28 4 _ l26_4 rfl
    have l28_5 : en_ld l28 5 = some (.inl v) := ml28 5 _ l26_5 rfl
    have l28_6 : en_ld l28 6 = some (.inl 4294967295) := ml28 6 _ l26_6 rfl
    have l28_7 : en_ld l28 7 = some (.inl n125) := ml28 7 _ hl26 rfl
    refine gx_ld (i := 7) (d := 0) (v := .inl n125) rfl (fun _ => rfl) l28_7 rfl rfl ?_
    refine gx_ld (i := 8) (d := 0) (v := .inl n127) rfl (fun _ => rfl) hl28 rfl rfl ?_
    by_cases hc29 : n127 ≤ n125
    · refine gx_2t (c := .ge) rfl (by first | decide | omega) (by first | decide | omega) hc29 rfl ?_
      refine gx_ld (i := 8) (d := 0) (v := .inl n127) rfl (fun _ => rfl) hl28 rfl rfl ?_
      refine gx_sto (i := 9) (d := 0) rfl (fun _ => rfl) rfl rfl (fun l30 hl30 ml30 => ?_)
      have l30_0 : en_ld l30 0 = some (gx_r 383) := ml30 0 _ l28_0 rfl
      have l30_1 : en_ld l30 1 = some (.inl a) := ml30 1 _ l28_1 rfl
      have l30_2 : en_ld l30 2 = some (.inl b) := ml30 2 _ l28_2 rfl
      have l30_3 : en_ld l30 3 = some (.inl be) := ml30 3 _ l28_3 rfl
      have l30_4 : en_ld l30 4 = some (.inl mo) := ml30 4 _ l28_4 rfl
      have l30_5 : en_ld l30 5 = some (.inl v) := ml30 5 _ l28_5 rfl
      have l30_6 : en_ld l30 6 = some (.inl 4294967295) := ml30 6 _ l28_6 rfl
      have l30_7 : en_ld l30 7 = some (.inl n125) := ml30 7 _ l28_7 rfl
      have l30_8 : en_ld l30 8 = some (.inl n127) := ml30 8 _ hl28 rfl
      have hm9 := sh_min (m := n127) hN (show (a + v) + (b - v) = a + b by omega) hn125 hn127 (by first | decide | omega) (by first | decide | omega) (Or.inr rfl)
      refine gx_ld (i := 9) (d := 0) (v := .inl n127) rfl (fun _ => rfl) hl30 rfl rfl ?_
      refine gx_ld (i := 4) (d := 0) (v := .inl mo) rfl (fun _ => rfl) l30_4 rfl rfl ?_
      by_cases hc31 : n127 ≤ mo
      · refine gx_2t (c := .le) rfl (by first | decide | omega) (by first | decide | omega) hc31 rfl ?_
        refine gx_ld (i := 3) (d := 0) (v := .inl be) rfl (fun _ => rfl) l30_3 rfl rfl ?_
        refine gx_sto (i := 3) (d := 0) rfl (fun _ => rfl) rfl rfl (fun l32 hl32 ml32 => ?_)
        have l32_0 : en_ld l32 0 = some (gx_r 383) := ml32 0 _ l30_0 rfl
        have l32_1 : en_ld l32 1 = some (.inl a) := ml32 1 _ l30_1 rfl
        have l32_2 : en_ld l32 2 = some (.inl b) := ml32 2 _ l30_2 rfl
        have l32_4 : en_ld l32 4 = some (.inl mo) := ml32 4 _ l30_4 rfl
        have l32_5 : en_ld l32 5 = some (.inl v) := ml32 5 _ l30_5 rfl
        have l32_6 : en_ld l32 6 = some (.inl 4294967295) := ml32 6 _ l30_6 rfl
        have l32_7 : en_ld l32 7 = some (.inl n125) := ml32 7 _ l30_7 rfl
        have l32_8 : en_ld l32 8 = some (.inl n127) := ml32 8 _ l30_8 rfl
        have l32_9 : en_ld l32 9 = some (.inl n127) := ml32 9 _ hl30 rfl
        refine gx_ld (i := 9) (d := 0) (v := .inl n127) rfl (fun _ => rfl) l32_9 rfl rfl ?_
        refine gx_ld (i := 4) (d := 0) (v := .inl mo) rfl (fun _ => rfl) l32_4 rfl rfl ?_
        refine gx_2t (c := .le) rfl (by first | decide | omega) (by first | decide | omega) (show n127 ≤ mo from by omega) rfl ?_
        refine gx_ld (i := 4) (d := 0) (v := .inl mo) rfl (fun _ => rfl) l32_4 rfl rfl ?_
        refine gx_sto (i := 4) (d := 0) rfl (fun _ => rfl) rfl rfl (fun l33 hl33 ml33 => ?_)
        have l33_0 : en_ld l33 0 = some (gx_r 383) := ml33 0 _ l32_0 rfl
        have l33_1 : en_ld l33 1 = some (.inl a) := ml33 1 _ l32_1 rfl
        have l33_2 : en_ld l33 2 = some (.inl b) := ml33 2 _ l32_2 rfl
        have l33_5 : en_ld l33 5 = some (.inl v) := ml33 5 _ l32_5 rfl
        have l33_6 : en_ld l33 6 = some (.inl 4294967295) := ml33 6 _ l32_6 rfl
        have l33_7 : en_ld l33 7 = some (.inl n125) := ml33 7 _ l32_7 rfl
        have l33_8 : en_ld l33 8 = some (.inl n127) := ml33 8 _ l32_8 rfl
        have l33_9 : en_ld l33 9 = some (.inl n127) := ml33 9 _ l32_9 rfl
        have l33_3 : en_ld l33 3 = some (.inl be) := ml33 3 _ hl32 rfl
        refine gx_incC (i := 6) (a := 4294967295) (b := 4294967293) rfl (fun _ => rfl) l33_6 rfl rfl (fun l34 hl34 ml34 => ?_)
        have l34_0 : en_ld l34 0 = some (gx_r 383) := ml34 0 _ l33_0 rfl
        have l34_1 : en_ld l34 1 = some (.inl a) := ml34 1 _ l33_1 rfl
        have l34_2 : en_ld l34 2 = some (.inl b) := ml34 2 _ l33_2 rfl
        have l34_5 : en_ld l34 5 = some (.inl v) := ml34 5 _ l33_5 rfl
        have l34_7 : en_ld l34 7 = some (.inl n125) := ml34 7 _ l33_7 rfl
        have l34_8 : en_ld l34 8 = some (.inl n127) := ml34 8 _ l33_8 rfl
        have l34_9 : en_ld l34 9 = some (.inl n127) := ml34 9 _ l33_9 rfl
        have l34_3 : en_ld l34 3 = some (.inl be) := ml34 3 _ l33_3 rfl
        have l34_4 : en_ld l34 4 = some (.inl mo) := ml34 4 _ hl33 rfl
        refine ex_go (S := (153, l34, [], t0, n, 0)) rfl (fun _ => rfl) rfl ?_
        refine gx_ld (i := 6) (d := 0) (v := .inl 4294967293) rfl (fun _ => rfl) hl34 rfl rfl ?_
        refine ex_go (S := (157, l34, [.inl 4294967294, .inl 4294967293], t0, n, 0)) rfl (fun _ => rfl) rfl ?_
        refine ex_go (S := (263, l34, [], t0, n, 0)) rfl (fun _ => rfl) rfl ?_
        refine gx_incS (i := 5) (a := v) (x := 1) rfl (fun _ => rfl) l34_5 (by first | decide | omega) rfl (fun l35 hl35 ml35 => ?_)
        have l35_0 : en_ld l35 0 = some (gx_r 383) := ml35 0 _ l34_0 rfl
        have l35_1 : en_ld l35 1 = some (.inl a) := ml35 1 _ l34_1 rfl
        have l35_2 : en_ld l35 2 = some (.inl b) := ml35 2 _ l34_2 rfl
        have l35_7 : en_ld l35 7 = some (.inl n125) := ml35 7 _ l34_7 rfl
        have l35_8 : en_ld l35 8 = some (.inl n127) := ml35 8 _ l34_8 rfl
        have l35_9 : en_ld l35 9 = some (.inl n127) := ml35 9 _ l34_9 rfl
        have l35_3 : en_ld l35 3 = some (.inl be) := ml35 3 _ l34_3 rfl
        have l35_4 : en_ld l35 4 = some (.inl mo) := ml35 4 _ l34_4 rfl
        have l35_6 : en_ld l35 6 = some (.inl 4294967293) := ml35 6 _ hl34 rfl
        refine ex_go (S := (138, l35, [], t0, n, 0)) rfl (fun _ => rfl) rfl ?_
        exact hQ _ _ _ (by first | decide | omega) (FI_keep hfg hF hm9 (by first | decide | omega) (by first | decide | omega)) l35_0 l35_1 l35_2 l35_3 l35_4 hl35
      · refine gx_2f (c := .le) rfl (by first | decide | omega) (by first | decide | omega) hc31 rfl ?_
        refine gx_ld (i := 6) (d := 0) (v := .inl 4294967295) rfl (fun _ => rfl) l30_6 rfl rfl ?_
        refine gx_ld (i := 5) (d := 0) (v := .inl v) rfl (fun _ => rfl) l30_5 rfl rfl ?_
        refine ex_go (S := (236, l30, [.inl (ng v)], t0, n, 0)) rfl (fun _ => rfl) rfl ?_
        refine ex_go (S := (240, l30, [.inl (ng v)], t0, n, 0)) rfl (fun _ => rfl) rfl ?_
        refine gx_sto (i := 3) (d := 0) rfl (fun _ => rfl) rfl rfl (fun l36 hl36 ml36 => ?_)
        have l36_0 : en_ld l36 0 = some (gx_r 383) := ml36 0 _ l30_0 rfl
        have l36_1 : en_ld l36 1 = some (.inl a) := ml36 1 _ l30_1 rfl
        have l36_2 : en_ld l36 2 = some (.inl b) := ml36 2 _ l30_2 rfl
        have l36_4 : en_ld l36 4 = some (.inl mo) := ml36 4 _ l30_4 rfl
        have l36_5 : en_ld l36 5 = some (.inl v) := ml36 5 _ l30_5 rfl
        have l36_6 : en_ld l36 6 = some (.inl 4294967295) := ml36 6 _ l30_6 rfl
        have l36_7 : en_ld l36 7 = some (.inl n125) := ml36 7 _ l30_7 rfl
        have l36_8 : en_ld l36 8 = some (.inl n127) := ml36 8 _ l30_8 rfl
        have l36_9 : en_ld l36 9 = some (.inl n127) := ml36 9 _ hl30 rfl
        refine gx_ld (i := 9) (d := 0) (v := .inl n127) rfl (fun _ => rfl) l36_9 rfl rfl ?_
        refine gx_ld (i := 4) (d := 0) (v := .inl mo) rfl (fun _ => rfl) l36_4 rfl rfl ?_
        refine gx_2f (c := .le) rfl (by first | decide | omega) (by first | decide | omega) (show ¬ (n127 ≤ mo) from by omega) rfl ?_
        refine gx_ld (i := 9) (d := 0) (v := .inl n127) rfl (fun _ => rfl) l36_9 rfl rfl ?_
        refine ex_go (S := (255, l36, [.inl n127], t0, n, 0)) rfl (fun _ => rfl) rfl ?_
        refine gx_sto (i := 4) (d := 0) rfl (fun _ => rfl) rfl rfl (fun l37 hl37 ml37 => ?_)
        have l37_0 : en_ld l37 0 = some (gx_r 383) := ml37 0 _ l36_0 rfl
        have l37_1 : en_ld l37 1 = some (.inl a) := ml37 1 _ l36_1 rfl
        have l37_2 : en_ld l37 2 = some (.inl b) := ml37 2 _ l36_2 rfl
        have l37_5 : en_ld l37 5 = some (.inl v) := ml37 5 _ l36_5 rfl
        have l37_6 : en_ld l37 6 = some (.inl 4294967295) := ml37 6 _ l36_6 rfl
        have l37_7 : en_ld l37 7 = some (.inl n125) := ml37 7 _ l36_7 rfl
        have l37_8 : en_ld l37 8 = some (.inl n127) := ml37 8 _ l36_8 rfl
        have l37_9 : en_ld l37 9 = some (.inl n127) := ml37 9 _ l36_9 rfl
        have l37_3 : en_ld l37 3 = some (.inl (ng v)) := ml37 3 _ hl36 rfl
        refine gx_incC (i := 6) (a := 4294967295) (b := 4294967293) rfl (fun _ => rfl) l37_6 rfl rfl (fun l38 hl38 ml38 => ?_)
        have l38_0 : en_ld l38 0 = some (gx_r 383) := ml38 0 _ l37_0 rfl
        have l38_1 : en_ld l38 1 = some (.inl a) := ml38 1 _ l37_1 rfl
        have l38_2 : en_ld l38 2 = some (.inl b) := ml38 2 _ l37_2 rfl
        have l38_5 : en_ld l38 5 = some (.inl v) := ml38 5 _ l37_5 rfl
        have l38_7 : en_ld l38 7 = some (.inl n125) := ml38 7 _ l37_7 rfl
        have l38_8 : en_ld l38 8 = some (.inl n127) := ml38 8 _ l37_8 rfl
        have l38_9 : en_ld l38 9 = some (.inl n127) := ml38 9 _ l37_9 rfl
        have l38_3 : en_ld l38 3 = some (.inl (ng v)) := ml38 3 _ l37_3 rfl
        have l38_4 : en_ld l38 4 = some (.inl n127) := ml38 4 _ hl37 rfl
        refine ex_go (S := (153, l38, [], t0, n, 0)) rfl (fun _ => rfl) rfl ?_
        refine gx_ld (i := 6) (d := 0) (v := .inl 4294967293) rfl (fun _ => rfl) hl38 rfl rfl ?_
        refine ex_go (S := (157, l38, [.inl 4294967294, .inl 4294967293], t0, n, 0)) rfl (fun _ => rfl) rfl ?_
        refine ex_go (S := (263, l38, [], t0, n, 0)) rfl (fun _ => rfl) rfl ?_
        refine gx_incS (i := 5) (a := v) (x := 1) rfl (fun _ => rfl) l38_5 (by first | decide | omega) rfl (fun l39 hl39 ml39 => ?_)
        have l39_0 : en_ld l39 0 = some (gx_r 383) := ml39 0 _ l38_0 rfl
        have l39_1 : en_ld l39 1 = some (.inl a) := ml39 1 _ l38_1 rfl
        have l39_2 : en_ld l39 2 = some (.inl b) := ml39 2 _ l38_2 rfl
        have l39_7 : en_ld l39 7 = some (.inl n125) := ml39 7 _ l38_7 rfl
        have l39_8 : en_ld l39 8 = some (.inl n127) := ml39 8 _ l38_8 rfl
        have l39_9 : en_ld l39 9 = some (.inl n127) := ml39 9 _ l38_9 rfl
        have l39_3 : en_ld l39 3 = some (.inl (ng v)) := ml39 3 _ l38_3 rfl
        have l39_4 : en_ld l39 4 = some (.inl n127) := ml39 4 _ l38_4 rfl
        have l39_6 : en_ld l39 6 = some (.inl 4294967293) := ml39 6 _ hl38 rfl
        refine ex_go (S := (138, l39, [], t0, n, 0)) rfl (fun _ => rfl) rfl ?_
        exact hQ _ _ _ (by first | decide | omega) (FI_take hfg hF hm9 (by first | decide | omega) (by first | decide | omega)) l39_0 l39_1 l39_2 l39_3 l39_4 hl39
    · refine gx_2f (c := .ge) rfl (by first | decide | omega) (by first | decide | omega) hc29 rfl ?_
      refine gx_ld (i := 7) (d := 0) (v := .inl n125) rfl (fun _ => rfl) l28_7 rfl rfl ?_
      refine ex_go (S := (222, l28, [.inl n125], t0, n, 0)) rfl (fun _ => rfl) rfl ?_
      refine gx_sto (i := 9) (d := 0) rfl (fun _ => rfl) rfl rfl (fun l40 hl40 ml40 => ?_)
      have l40_0 : en_ld l40 0 = some (gx_r 383) := ml40 0 _ l28_0 rfl
      have l40_1 : en_ld l40 1 = some (.inl a) := ml40 1 _ l28_1 rfl
      have l40_2 : en_ld l40 2 = some (.inl b) := ml40 2 _ l28_2 rfl
      have l40_3 : en_ld l40 3 = some (.inl be) := ml40 3 _ l28_3 rfl
      have l40_4 : en_ld l40 4 = some (.inl mo) := ml40 4 _ l28_4 rfl
      have l40_5 : en_ld l40 5 = some (.inl v) := ml40 5 _ l28_5 rfl
      have l40_6 : en_ld l40 6 = some (.inl 4294967295) := ml40 6 _ l28_6 rfl
      have l40_7 : en_ld l40 7 = some (.inl n125) := ml40 7 _ l28_7 rfl
      have l40_8 : en_ld l40 8 = some (.inl n127) := ml40 8 _ hl28 rfl
      have hm9 := sh_min (m := n125) hN (show (a + v) + (b - v) = a + b by omega) hn125 hn127 (by first | decide | omega) (by first | decide | omega) (Or.inl rfl)
      refine gx_ld (i := 9) (d := 0) (v := .inl n125) rfl (fun _ => rfl) hl40 rfl rfl ?_
      refine gx_ld (i := 4) (d := 0) (v := .inl mo) rfl (fun _ => rfl) l40_4 rfl rfl ?_
      by_cases hc41 : n125 ≤ mo
      · refine gx_2t (c := .le) rfl (by first | decide | omega) (by first | decide | omega) hc41 rfl ?_
        refine gx_ld (i := 3) (d := 0) (v := .inl be) rfl (fun _ => rfl) l40_3 rfl rfl ?_
        refine gx_sto (i := 3) (d := 0) rfl (fun _ => rfl) rfl rfl (fun l42 hl42 ml42 => ?_)
        have l42_0 : en_ld l42 0 = some (gx_r 383) := ml42 0 _ l40_0 rfl
        have l42_1 : en_ld l42 1 = some (.inl a) := ml42 1 _ l40_1 rfl
        have l42_2 : en_ld l42 2 = some (.inl b) := ml42 2 _ l40_2 rfl
        have l42_4 : en_ld l42 4 = some (.inl mo) := ml42 4 _ l40_4 rfl
        have l42_5 : en_ld l42 5 = some (.inl v) := ml42 5 _ l40_5 rfl
        have l42_6 : en_ld l42 6 = some (.inl 4294967295) := ml42 6 _ l40_6 rfl
        have l42_7 : en_ld l42 7 = some (.inl n125) := ml42 7 _ l40_7 rfl
        have l42_8 : en_ld l42 8 = some (.inl n127) := ml42 8 _ l40_8 rfl
        have l42_9 : en_ld l42 9 = some (.inl n125) := ml42 9 _ hl40 rfl
        refine gx_ld (i := 9) (d := 0) (v := .inl n125) rfl (fun _ => rfl) l42_9 rfl rfl ?_
        refine gx_ld (i := 4) (d := 0) (v := .inl mo) rfl (fun _ => rfl) l42_4 rfl rfl ?_
        refine gx_2t (c := .le) rfl (by first | decide | omega) (by first | decide | omega) (show n125 ≤ mo from by omega) rfl ?_
        refine gx_ld (i := 4) (d := 0) (v := .inl mo) rfl (fun _ => rfl) l42_4 rfl rfl ?_
        refine gx_sto (i := 4) (d := 0) rfl (fun _ => rfl) rfl rfl (fun l43 hl43 ml43 => ?_)
        have l43_0 : en_ld l43 0 = some (gx_r 383) := ml43 0 _ l42_0 rfl
        have l43_1 : en_ld l43 1 = some (.inl a) := ml43 1 _ l42_1 rfl
        have l43_2 : en_ld l43 2 = some (.inl b) := ml43 2 _ l42_2 rfl
        have l43_5 : en_ld l43 5 = some (.inl v) := ml43 5 _ l42_5 rfl
        have l43_6 : en_ld l43 6 = some (.inl 4294967295) := ml43 6 _ l42_6 rfl
        have l43_7 : en_ld l43 7 = some (.inl n125) := ml43 7 _ l42_7 rfl
        have l43_8 : en_ld l43 8 = some (.inl n127) := ml43 8 _ l42_8 rfl
        have l43_9 : en_ld l43 9 = some (.inl n125) := ml43 9 _ l42_9 rfl
        have l43_3 : en_ld l43 3 = some (.inl be) := ml43 3 _ hl42 rfl
        refine gx_incC (i := 6) (a := 4294967295) (b := 4294967293) rfl (fun _ => rfl) l43_6 rfl rfl (fun l44 hl44 ml44 => ?_)
        have l44_0 : en_ld l44 0 = some (gx_r 383) := ml44 0 _ l43_0 rfl
        have l44_1 : en_ld l44 1 = some (.inl a) := ml44 1 _ l43_1 rfl
        have l44_2 : en_ld l44 2 = some (.inl b) := ml44 2 _ l43_2 rfl
        have l44_5 : en_ld l44 5 = some (.inl v) := ml44 5 _ l43_5 rfl
        have l44_7 : en_ld l44 7 = some (.inl n125) := ml44 7 _ l43_7 rfl
        have l44_8 : en_ld l44 8 = some (.inl n127) := ml44 8 _ l43_8 rfl
        have l44_9 : en_ld l44 9 = some (.inl n125) := ml44 9 _ l43_9 rfl
        have l44_3 : en_ld l44 3 = some (.inl be) := ml44 3 _ l43_3 rfl
        have l44_4 : en_ld l44 4 = some (.inl mo) := ml44 4 _ hl43 rfl
        refine ex_go (S := (153, l44, [], t0, n, 0)) rfl (fun _ => rfl) rfl ?_
        refine gx_ld (i := 6) (d := 0) (v := .inl 4294967293) rfl (fun _ => rfl) hl44 rfl rfl ?_
        refine ex_go (S := (157, l44, [.inl 4294967294, .inl 4294967293], t0, n, 0)) rfl (fun _ => rfl) rfl ?_
        refine ex_go (S := (263, l44, [], t0, n, 0)) rfl (fun _ => rfl) rfl ?_
        refine gx_incS (i := 5) (a := v) (x := 1) rfl (fun _ => rfl) l44_5 (by first | decide | omega) rfl (fun l45 hl45 ml45 => ?_)
        have l45_0 : en_ld l45 0 = some (gx_r 383) := ml45 0 _ l44_0 rfl
        have l45_1 : en_ld l45 1 = some (.inl a) := ml45 1 _ l44_1 rfl
        have l45_2 : en_ld l45 2 = some (.inl b) := ml45 2 _ l44_2 rfl
        have l45_7 : en_ld l45 7 = some (.inl n125) := ml45 7 _ l44_7 rfl
        have l45_8 : en_ld l45 8 = some (.inl n127) := ml45 8 _ l44_8 rfl
        have l45_9 : en_ld l45 9 = some (.inl n125) := ml45 9 _ l44_9 rfl
        have l45_3 : en_ld l45 3 = some (.inl be) := ml45 3 _ l44_3 rfl
        have l45_4 : en_ld l45 4 = some (.inl mo) := ml45 4 _ l44_4 rfl
        have l45_6 : en_ld l45 6 = some (.inl 4294967293) := ml45 6 _ hl44 rfl
        refine ex_go (S := (138, l45, [], t0, n, 0)) rfl (fun _ => rfl) rfl ?_
        exact hQ _ _ _ (by first | decide | omega) (FI_keep hfg hF hm9 (by first | decide | omega) (by first | decide | omega)) l45_0 l45_1 l45_2 l45_3 l45_4 hl45
      · refine gx_2f (c := .le) rfl (by first | decide | omega) (by first | decide | omega) hc41 rfl ?_
        refine gx_ld (i := 6) (d := 0) (v := .inl 4294967295) rfl (fun _ => rfl) l40_6 rfl rfl ?_
        refine gx_ld (i := 5) (d := 0) (v := .inl v) rfl (fun _ => rfl) l40_5 rfl rfl ?_
        refine ex_go (S := (236, l40, [.inl (ng v)], t0, n, 0)) rfl (fun _ => rfl) rfl ?_
        refine ex_go (S := (240, l40, [.inl (ng v)], t0, n, 0)) rfl (fun _ => rfl) rfl ?_
        refine gx_sto (i := 3) (d := 0) rfl (fun _ => rfl) rfl rfl (fun l46 hl46 ml46 => ?_)
        have l46_0 : en_ld l46 0 = some (gx_r 383) := ml46 0 _ l40_0 rfl
        have l46_1 : en_ld l46 1 = some (.inl a) := ml46 1 _ l40_1 rfl
        have l46_2 : en_ld l46 2 = some (.inl b) := ml46 2 _ l40_2 rfl
        have l46_4 : en_ld l46 4 = some (.inl mo) := ml46 4 _ l40_4 rfl
        have l46_5 : en_ld l46 5 = some (.inl v) := ml46 5 _ l40_5 rfl
        have l46_6 : en_ld l46 6 = some (.inl 4294967295) := ml46 6 _ l40_6 rfl
        have l46_7 : en_ld l46 7 = some (.inl n125) := ml46 7 _ l40_7 rfl
        have l46_8 : en_ld l46 8 = some (.inl n127) := ml46 8 _ l40_8 rfl
        have l46_9 : en_ld l46 9 = some (.inl n125) := ml46 9 _ hl40 rfl
        refine gx_ld (i := 9) (d := 0) (v := .inl n125) rfl (fun _ => rfl) l46_9 rfl rfl ?_
        refine gx_ld (i := 4) (d := 0) (v := .inl mo) rfl (fun _ => rfl) l46_4 rfl rfl ?_
        refine gx_2f (c := .le) rfl (by first | decide | omega) (by first | decide | omega) (show ¬ (n125 ≤ mo) from by omega) rfl ?_
        refine gx_ld (i := 9) (d := 0) (v := .inl n125) rfl (fun _ => rfl) l46_9 rfl rfl ?_
        refine ex_go (S := (255, l46, [.inl n125], t0, n, 0)) rfl (fun _ => rfl) rfl ?_
        refine gx_sto (i := 4) (d := 0) rfl (fun _ => rfl) rfl rfl (fun l47 hl47 ml47 => ?_)
        have l47_0 : en_ld l47 0 = some (gx_r 383) := ml47 0 _ l46_0 rfl
        have l47_1 : en_ld l47 1 = some (.inl a) := ml47 1 _ l46_1 rfl
        have l47_2 : en_ld l47 2 = some (.inl b) := ml47 2 _ l46_2 rfl
        have l47_5 : en_ld l47 5 = some (.inl v) := ml47 5 _ l46_5 rfl
        have l47_6 : en_ld l47 6 = some (.inl 4294967295) := ml47 6 _ l46_6 rfl
        have l47_7 : en_ld l47 7 = some (.inl n125) := ml47 7 _ l46_7 rfl
        have l47_8 : en_ld l47 8 = some (.inl n127) := ml47 8 _ l46_8 rfl
        have l47_9 : en_ld l47 9 = some (.inl n125) := ml47 9 _ l46_9 rfl
        have l47_3 : en_ld l47 3 = some (.inl (ng v)) := ml47 3 _ hl46 rfl
        refine gx_incC (i := 6) (a := 4294967295) (b := 4294967293) rfl (fun _ => rfl) l47_6 rfl rfl (fun l48 hl48 ml48 => ?_)
        have l48_0 : en_ld l48 0 = some (gx_r 383) := ml48 0 _ l47_0 rfl
        have l48_1 : en_ld l48 1 = some (.inl a) := ml48 1 _ l47_1 rfl
        have l48_2 : en_ld l48 2 = some (.inl b) := ml48 2 _ l47_2 rfl
        have l48_5 : en_ld l48 5 = some (.inl v) := ml48 5 _ l47_5 rfl
        have l48_7 : en_ld l48 7 = some (.inl n125) := ml48 7 _ l47_7 rfl
        have l48_8 : en_ld l48 8 = some (.inl n127) := ml48 8 _ l47_8 rfl
        have l48_9 : en_ld l48 9 = some (.inl n125) := ml48 9 _ l47_9 rfl
        have l48_3 : en_ld l48 3 = some (.inl (ng v)) := ml48 3 _ l47_3 rfl
        have l48_4 : en_ld l48 4 = some (.inl n125) := ml48 4 _ hl47 rfl
        refine ex_go (S := (153, l48, [], t0, n, 0)) rfl (fun _ => rfl) rfl ?_
        refine gx_ld (i := 6) (d := 0) (v := .inl 4294967293) rfl (fun _ => rfl) hl48 rfl rfl ?_
        refine ex_go (S := (157, l48, [.inl 4294967294, .inl 4294967293], t0, n, 0)) rfl (fun _ => rfl) rfl ?_
        refine ex_go (S := (263, l48, [], t0, n, 0)) rfl (fun _ => rfl) rfl ?_
        refine gx_incS (i := 5) (a := v) (x := 1) rfl (fun _ => rfl) l48_5 (by first | decide | omega) rfl (fun l49 hl49 ml49 => ?_)
        have l49_0 : en_ld l49 0 = some (gx_r 383) := ml49 0 _ l48_0 rfl
        have l49_1 : en_ld l49 1 = some (.inl a) := ml49 1 _ l48_1 rfl
        have l49_2 : en_ld l49 2 = some (.inl b) := ml49 2 _ l48_2 rfl
        have l49_7 : en_ld l49 7 = some (.inl n125) := ml49 7 _ l48_7 rfl
        have l49_8 : en_ld l49 8 = some (.inl n127) := ml49 8 _ l48_8 rfl
        have l49_9 : en_ld l49 9 = some (.inl n125) := ml49 9 _ l48_9 rfl
        have l49_3 : en_ld l49 3 = some (.inl (ng v)) := ml49 3 _ l48_3 rfl
        have l49_4 : en_ld l49 4 = some (.inl n125) := ml49 4 _ l48_4 rfl
        have l49_6 : en_ld l49 6 = some (.inl 4294967293) := ml49 6 _ hl48 rfl
        refine ex_go (S := (138, l49, [], t0, n, 0)) rfl (fun _ => rfl) rfl ?_
        exact hQ _ _ _ (by first | decide | omega) (FI_take hfg hF hm9 (by first | decide | omega) (by first | decide | omega)) l49_0 l49_1 l49_2 l49_3 l49_4 hl49
theorem sh_l (d n : Nat) {t0 : en_H} {a b N : Nat} {e e' : Nat → Nat} {Q : en_O → Prop} (g0 : ai_HG ah_G t0) (ha : a ≤ 19998) (hb : b ≤ 19998) (hS0 : ∀ i, i ≤ 200 → ai_hv t0 404 i = some (.inl (psm e i))) (hS1 : ∀ i, i ≤ 200 → ai_hv t0 404 (201 + i) = some (.inl (psm e' i))) (he : ∀ k, e k ≤ 99) (he' : ∀ k, e' k ≤ 99) (hN : Nsp (psm e) (psm e') (a + b) N) (hQ : Q (.inl (some (.inl (shA a b (psm e N) (psm e' N))), t0, n, 0))) : ∀ j v be mo cl, v + j = 20000 → 1 ≤ v → mo ≤ 200 → FI a b (psm e N) (psm e' N) N v be mo → en_ld cl 0 = some (gx_r 383) → en_ld cl 1 = some (.inl a) → en_ld cl 2 = some (.inl b) → en_ld cl 3 = some (.inl be) → en_ld cl 4 = some (.inl mo) → en_ld cl 5 = some (.inl v) → en_ex none (en_u (d + 4)) (en_code 70) (fun _ => false) (138, cl, [], t0, n, 0) Q := by
  have hfg := hN.2.1
  intro j
  induction j with
  | zero =>
    intro v be mo cl hj h1 hmo hF h0 h1' h2 h3 h4 h5
    refine gx_ld (i := 5) (d := 0) (v := .inl v) rfl (fun _ => rfl) h5 rfl rfl ?_
    refine gx_ld (i := 1) (d := 0) (v := .inl a) rfl (fun _ => rfl) h1' rfl rfl ?_
    refine gx_2f (c := .le) rfl (by first | decide | omega) (by first | decide | omega) (show ¬ (v ≤ a) from by omega) rfl ?_
    refine gx_ld (i := 5) (d := 0) (v := .inl v) rfl (fun _ => rfl) h5 rfl rfl ?_
    refine gx_ld (i := 2) (d := 0) (v := .inl b) rfl (fun _ => rfl) h2 rfl rfl ?_
    refine gx_2t (c := .gt) rfl (by first | decide | omega) (by first | decide | omega) (show b < v from by omega) rfl ?_
    refine gx_ld (i := 3) (d := 0) (v := .inl be) rfl (fun _ => rfl) h3 rfl rfl ?_
    refine ex_ret (r := (some (.inl be), t0, n, 0)) rfl (fun _ => rfl) ?_
    have hbe := FI_end hfg hF (by first | decide | omega) (by first | decide | omega)
    rw [hbe]
    exact hQ
  | succ j ih =>
    intro v be mo cl hj h1 hmo hF h0 h1' h2 h3 h4 h5
    refine gx_ld (i := 5) (d := 0) (v := .inl v) rfl (fun _ => rfl) h5 rfl rfl ?_
    refine gx_ld (i := 1) (d := 0) (v := .inl a) rfl (fun _ => rfl) h1' rfl rfl ?_
    by_cases hc21 : v ≤ a
    · refine gx_2t (c := .le) rfl (by first | decide | omega) (by first | decide | omega) hc21 rfl ?_
      refine sh_p d n g0 ha hb hS0 hS1 he he' hN h1 (by first | decide | omega) hF hmo (fun cl1 be1 mo1 hm1 hF1 m0 m1 m2 m3 m4 m5 m6 => ?_) h0 h1' h2 h3 h4 h5
      exact sh_m d n g0 ha hb hS0 hS1 he he' hN (by first | decide | omega) hF1 hm1 (fun cl2 be2 mo2 hm2 hF2 q0 q1 q2 q3 q4 q5 => ih (v + 1) be2 mo2 cl2 (by first | decide | omega) (by first | decide | omega) hm2 hF2 q0 q1 q2 q3 q4 q5) m0 m1 m2 m3 m4 m5 m6
    · refine gx_2f (c := .le) rfl (by first | decide | omega) (by first | decide | omega) hc21 rfl ?_
      refine gx_ld (i := 5) (d := 0) (v := .inl v) rfl (fun _ => rfl) h5 rfl rfl ?_
      refine gx_ld (i := 2) (d := 0) (v := .inl b) rfl (fun _ => rfl) h2 rfl rfl ?_
      by_cases hc22 : b < v
      · refine gx_2t (c := .gt) rfl (by first | decide | omega) (by first | decide | omega) hc22 rfl ?_
        refine gx_ld (i := 3) (d := 0) (v := .inl be) rfl (fun _ => rfl) h3 rfl rfl ?_
        refine ex_ret (r := (some (.inl be), t0, n, 0)) rfl (fun _ => rfl) ?_
        have hbe := FI_end hfg hF (by first | decide | omega) (by first | decide | omega)
        rw [hbe]
        exact hQ
      · refine gx_2f (c := .gt) rfl (by first | decide | omega) (by first | decide | omega) hc22 rfl ?_
        refine sh_p d n g0 ha hb hS0 hS1 he he' hN h1 (by first | decide | omega) hF hmo (fun cl1 be1 mo1 hm1 hF1 m0 m1 m2 m3 m4 m5 m6 => ?_) h0 h1' h2 h3 h4 h5
        exact sh_m d n g0 ha hb hS0 hS1 he he' hN (by first | decide | omega) hF1 hm1 (fun cl2 be2 mo2 hm2 hF2 q0 q1 q2 q3 q4 q5 => ih (v + 1) be2 mo2 cl2 (by first | decide | omega) (by first | decide | omega) hm2 hF2 q0 q1 q2 q3 q4 q5) m0 m1 m2 m3 m4 m5 m6
theorem sr_share (d n : Nat) {t0 : en_H} {w : Nat → Nat → Nat} {L : List Nat} {σ : Nat → Nat} {N : Nat} (g0 : ai_HG ah_G t0) (hR : RW t0 w L) (hS : blk t0 0 σ) (hB : σ 0 ≤ 900000) (ho : ∀ c, c < w 0 4 → σ (11 + c) ≤ 1 ∧ σ (7 + c) ≤ 19998) (hN : w 0 4 = 2 → Nsp (psm (eatk w L σ 0)) (psm (eatk w L σ 1)) (σ 7 + σ 8) N) : ∃ r, en_u (d + 5) 70 [gx_r 383] t0 n = some r ∧ ∃ v t', r = (some (.inl v), t', n, 0) ∧ (w 0 4 = 2 → ai_hv t' 383 0 = some (.inl 0) ∧ v = shA (σ 7) (σ 8) (psm (eatk w L σ 0) N) (psm (eatk w L σ 1) N)) ∧ (w 0 4 ≠ 2 → ai_hv t' 383 0 = some (.inl 1)) ∧ ai_hv t' 412 0 = ai_hv t0 412 0 := by
  have hK := hR.2.1.2.2.2.2.1
  refine en_u_ex (d := d + 4) rfl ?_
  show en_ex _ _ _ _ (0, [(0, gx_r 383)], [], t0, n, 0) _
  refine ex_go (S := (1, [(0, gx_r 383)], [gx_r 383], t0, n, 0)) rfl (fun _ => rfl) rfl ?_
  refine ex_go (S := (2, [(0, gx_r 383)], [gx_r 383, gx_r 383], t0, n, 0)) rfl (fun _ => rfl) rfl ?_
  obtain ⟨_, r21, rfl⟩ := sr_crews (d + 3) n g0 (hR.1 4 (by decide))
  refine gx_call1 rfl rfl g0 rfl rfl r21 rfl ?_
  show en_ex _ _ _ _ (5, [(0, gx_r 383)], [.inl (w 0 4), gx_r 383], t0, n, 0) _
  refine ex_go (S := (6, [(0, gx_r 383)], [.inl 2, .inl (w 0 4), gx_r 383], t0, n, 0)) rfl (fun _ => rfl) rfl ?_
  by_cases hc22 : w 0 4 ≠ 2
  · refine gx_2t (c := .ne) rfl (by first | decide | omega) (by first | decide | omega) hc22 rfl ?_
    refine ex_go (S := (14, [(0, gx_r 383)], [.inl 1, gx_r 383], t0, n, 0)) rfl (fun _ => rfl) rfl ?_
    refine gx_put rfl g0 rfl rfl (ai_in_h (by first | decide | omega) (by first | decide | omega) (by first | decide | omega)) rfl (fun t123 g123 k123 e123 => ?_)
    refine ex_go (S := (18, [(0, gx_r 383)], [gx_r 383], t123, n, 0)) rfl (fun _ => rfl) rfl ?_
    refine gx_get rfl g123 rfl k123 rfl ?_
    refine ex_go (S := (24, [(0, gx_r 383)], [], t123, n, 0)) rfl (fun _ => rfl) rfl ?_
    refine ex_go (S := (25, [(0, gx_r 383)], [.inl 0], t123, n, 0)) rfl (fun _ => rfl) rfl ?_
    refine ex_ret (r := (some (.inl 0), t123, n, 0)) rfl (fun _ => rfl) ?_
    exact ⟨_, rfl, _, _, rfl, (fun z => absurd z (by first | decide | omega)), (fun _ => k123), e123 412 0 (by first | decide | omega)⟩
  · refine gx_2f (c := .ne) rfl (by first | decide | omega) (by first | decide | omega) hc22 rfl ?_
    refine ex_go (S := (10, [(0, gx_r 383)], [.inl 0, gx_r 383], t0, n, 0)) rfl (fun _ => rfl) rfl ?_
    refine ex_go (S := (14, [(0, gx_r 383)], [.inl 0, gx_r 383], t0, n, 0)) rfl (fun _ => rfl) rfl ?_
    refine gx_put rfl g0 rfl rfl (ai_in_h (by first | decide | omega) (by first | decide | omega) (by first | decide | omega)) rfl (fun t124 g124 k124 e124 => ?_)
    refine ex_go (S := (18, [(0, gx_r 383)], [gx_r 383], t124, n, 0)) rfl (fun _ => rfl) rfl ?_
    refine gx_get rfl g124 rfl k124 rfl ?_
    refine ex_go (S := (26, [(0, gx_r 383)], [], t124, n, 0)) rfl (fun _ => rfl) rfl ?_
    refine ex_go (S := (27, [(0, gx_r 383)], [.inl 0], t124, n, 0)) rfl (fun _ => rfl) rfl ?_
    refine ex_go (S := (28, [(1, .inl 0), (0, gx_r 383)], [], t124, n, 0)) rfl (fun _ => rfl) rfl ?_
    refine ex_go (S := (29, [(1, .inl 0), (0, gx_r 383)], [.inl 0], t124, n, 0)) rfl (fun _ => rfl) rfl ?_
    refine ex_go (S := (30, [(1, .inl 0), (0, gx_r 383)], [.inl 2, .inl 0], t124, n, 0)) rfl (fun _ => rfl) rfl ?_
    refine ex_go (S := (33, [(1, .inl 0), (0, gx_r 383)], [], t124, n, 0)) rfl (fun _ => rfl) rfl ?_
    refine ex_go (S := (34, [(1, .inl 0), (0, gx_r 383)], [gx_r 383], t124, n, 0)) rfl (fun _ => rfl) rfl ?_
    refine gx_ref (c := 404) rfl g124 rfl rfl rfl rfl ?_
    refine ex_go (S := (40, [(1, .inl 0), (0, gx_r 383)], [.inl 201, gx_r 404], t124, n, 0)) rfl (fun _ => rfl) rfl ?_
    refine ex_go (S := (41, [(1, .inl 0), (0, gx_r 383)], [.inl 0, .inl 201, gx_r 404], t124, n, 0)) rfl (fun _ => rfl) rfl ?_
    refine ex_go (S := (42, [(1, .inl 0), (0, gx_r 383)], [.inl 0, gx_r 404], t124, n, 0)) rfl (fun _ => rfl) rfl ?_
    refine ex_go (S := (43, [(1, .inl 0), (0, gx_r 383)], [.inl 0, .inl 0, gx_r 404], t124, n, 0)) rfl (fun _ => rfl) rfl ?_
    refine gx_ap rfl (fun _ => rfl) g124 rfl rfl rfl (show 0 < 402 from by omega) (gx_run1 (show 0 < 402 from by omega)) (gx_full (by first | decide | omega)) rfl (fun t125 g125 k125 e125 => ?_)
    have k26 : ai_hv t125 383 0 = some (.inl 0) := (e125 383 0 (by first | decide | omega)).trans k124
    refine ex_go (S := (45, [(1, .inl 0), (0, gx_r 383)], [.inl 0], t125, n, 0)) rfl (fun _ => rfl) rfl ?_
    refine ex_go (S := (46, [(2, .inl 0), (1, .inl 0), (0, gx_r 383)], [], t125, n, 0)) rfl (fun _ => rfl) rfl ?_
    refine sh_nd d n (tb := t125) (c := 0) (RW_keep hR (fun i hi => (e125 389 i (by first | decide | omega)).trans (e124 389 i (by first | decide | omega))) (fun c i hc _ => (e125 c i (by first | decide | omega)).trans (e124 c i (by first | decide | omega)))) (blk_keep hS (fun j hj => (e125 399 _ (by first | decide | omega)).trans (e124 399 _ (by first | decide | omega)))) hB (by first | decide | omega) (ho 0 (by first | decide | omega)).1 (fun cl127 t127 g127 e127 hN127 m1270 m1271 => ?_) 200 0 _ t125 (by first | decide | omega) g125 (fun _ _ _ => rfl) (fun i hi => by
      have e9 : i = 0 := by omega
      rw [e9]; exact k125) rfl rfl rfl
    have k28 : ai_hv t127 383 0 = some (.inl 0) := (e127 383 0 (by first | decide | omega)).trans k26
    refine gx_incS (i := 1) (a := 0) (x := 1) rfl (fun _ => rfl) m1271 (by first | decide | omega) rfl (fun l29 hl29 ml29 => ?_)
    have l29_0 : en_ld l29 0 = some (gx_r 383) := ml29 0 _ m1270 rfl
    refine ex_go (S := (28, l29, [], t127, n, 0)) rfl (fun _ => rfl) rfl ?_
    refine gx_ld (i := 1) (d := 0) (v := .inl 1) rfl (fun _ => rfl) hl29 rfl rfl ?_
    refine ex_go (S := (30, l29, [.inl 2, .inl 1], t127, n, 0)) rfl (fun _ => rfl) rfl ?_
    refine ex_go (S := (33, l29, [], t127, n, 0)) rfl (fun _ => rfl) rfl ?_
    refine gx_ld (i := 0) (d := 2) (v := gx_r 383) rfl (fun _ => rfl) l29_0 rfl rfl ?_
    refine gx_ref (c := 404) rfl g127 rfl rfl rfl rfl ?_
    refine ex_go (S := (40, l29, [.inl 201, gx_r 404], t127, n, 0)) rfl (fun _ => rfl) rfl ?_
    refine gx_ld (i := 1) (d := 0) (v := .inl 1) rfl (fun _ => rfl) hl29 rfl rfl ?_
    refine ex_go (S := (42, l29, [.inl 201, gx_r 404], t127, n, 0)) rfl (fun _ => rfl) rfl ?_
    refine ex_go (S := (43, l29, [.inl 0, .inl 201, gx_r 404], t127, n, 0)) rfl (fun _ => rfl) rfl ?_
    refine gx_ap rfl (fun _ => rfl) g127 rfl rfl rfl (show 201 < 402 from by omega) (gx_run1 (show 201 < 402 from by omega)) (gx_full (by first | decide | omega)) rfl (fun t130 g130 k130 e130 => ?_)
    have k31 : ai_hv t130 383 0 = some (.inl 0) := (e130 383 0 (by first | decide | omega)).trans k28
    refine ex_go (S := (45, l29, [.inl 0], t130, n, 0)) rfl (fun _ => rfl) rfl ?_
    refine gx_sto (i := 2) (d := 0) rfl (fun _ => rfl) rfl rfl (fun l32 hl32 ml32 => ?_)
    have l32_0 : en_ld l32 0 = some (gx_r 383) := ml32 0 _ l29_0 rfl
    have l32_1 : en_ld l32 1 = some (.inl 1) := ml32 1 _ hl29 rfl
    refine sh_nd d n (tb := t130) (c := 1) (RW_keep hR (fun i hi => (e130 389 i (by first | decide | omega)).trans ((e127 389 i (by first | decide | omega)).trans ((e125 389 i (by first | decide | omega)).trans (e124 389 i (by first | decide | omega))))) (fun c i hc _ => (e130 c i (by first | decide | omega)).trans ((e127 c i (by first | decide | omega)).trans ((e125 c i (by first | decide | omega)).trans (e124 c i (by first | decide | omega)))))) (blk_keep hS (fun j hj => (e130 399 _ (by first | decide | omega)).trans ((e127 399 _ (by first | decide | omega)).trans ((e125 399 _ (by first | decide | omega)).trans (e124 399 _ (by first | decide | omega)))))) hB (by first | decide | omega) (ho 1 (by first | decide | omega)).1 (fun cl133 t133 g133 e133 hN133 m1330 m1331 => ?_) 200 0 _ t130 (by first | decide | omega) g130 (fun _ _ _ => rfl) (fun i hi => by
      have e9 : i = 0 := by omega
      rw [e9]; exact k130) l32_0 l32_1 hl32
    have k34 : ai_hv t133 383 0 = some (.inl 0) := (e133 383 0 (by first | decide | omega)).trans k31
    refine gx_incS (i := 1) (a := 1) (x := 1) rfl (fun _ => rfl) m1331 (by first | decide | omega) rfl (fun l35 hl35 ml35 => ?_)
    have l35_0 : en_ld l35 0 = some (gx_r 383) := ml35 0 _ m1330 rfl
    refine ex_go (S := (28, l35, [], t133, n, 0)) rfl (fun _ => rfl) rfl ?_
    refine gx_ld (i := 1) (d := 0) (v := .inl 2) rfl (fun _ => rfl) hl35 rfl rfl ?_
    refine ex_go (S := (30, l35, [.inl 2, .inl 2], t133, n, 0)) rfl (fun _ => rfl) rfl ?_
    refine ex_go (S := (114, l35, [], t133, n, 0)) rfl (fun _ => rfl) rfl ?_
    refine gx_ld (i := 0) (d := 2) (v := gx_r 383) rfl (fun _ => rfl) l35_0 rfl rfl ?_
    refine gx_ref (c := 399) rfl g133 rfl rfl rfl rfl ?_
    refine ex_go (S := (120, l35, [.inl 7, gx_r 399], t133, n, 0)) rfl (fun _ => rfl) rfl ?_
    have ho7 : σ 7 ≤ 19998 := (ho 0 (by first | decide | omega)).2
    refine gx_ag (v := .inl (σ 7)) (cb := fun c => Nat.beq c 0) rfl (fun _ => rfl) g133 rfl rfl (((e133 399 7 (by first | decide | omega)).trans ((e130 399 7 (by first | decide | omega)).trans ((e127 399 7 (by first | decide | omega)).trans ((e125 399 7 (by first | decide | omega)).trans (e124 399 7 (by first | decide | omega)))))).trans (hS 7 (by decide))) (by first | decide | omega) rfl ?_
    refine gx_sto (i := 1) (d := 0) rfl (fun _ => rfl) rfl rfl (fun l36 hl36 ml36 => ?_)
    have l36_0 : en_ld l36 0 = some (gx_r 383) := ml36 0 _ l35_0 rfl
    refine gx_ld (i := 0) (d := 2) (v := gx_r 383) rfl (fun _ => rfl) l36_0 rfl rfl ?_
    refine gx_ref (c := 399) rfl g133 rfl rfl rfl rfl ?_
    refine ex_go (S := (128, l36, [.inl 8, gx_r 399], t133, n, 0)) rfl (fun _ => rfl) rfl ?_
    have ho8 : σ 8 ≤ 19998 := (ho 1 (by first | decide | omega)).2
    refine gx_ag (v := .inl (σ 8)) (cb := fun c => Nat.beq c 0) rfl (fun _ => rfl) g133 rfl rfl (((e133 399 8 (by first | decide | omega)).trans ((e130 399 8 (by first | decide | omega)).trans ((e127 399 8 (by first | decide | omega)).trans ((e125 399 8 (by first | decide | omega)).trans (e124 399 8 (by first | decide | omega)))))).trans (hS 8 (by decide))) (by first | decide | omega) rfl ?_
    refine gx_sto (i := 2) (d := 0) rfl (fun _ => rfl) rfl rfl (fun l37 hl37 ml37 => ?_)
    have l37_0 : en_ld l37 0 = some (gx_r 383) := ml37 0 _ l36_0 rfl
    have l37_1 : en_ld l37 1 = some (.inl (σ 7)) := ml37 1 _ hl36 rfl
    refine ex_go (S := (131, l37, [.inl 0], t133, n, 0)) rfl (fun _ => rfl) rfl ?_
    refine gx_sto (i := 3) (d := 0) rfl (fun _ => rfl) rfl rfl (fun l38 hl38 ml38 => ?_)
    have l38_0 : en_ld l38 0 = some (gx_r 383) := ml38 0 _ l37_0 rfl
    have l38_1 : en_ld l38 1 = some (.inl (σ 7)) := ml38 1 _ l37_1 rfl
    have l38_2 : en_ld l38 2 = some (.inl (σ 8)) := ml38 2 _ hl37 rfl
    refine ex_go (S := (133, l38, [.inl 4294967295], t133, n, 0)) rfl (fun _ => rfl) rfl ?_
    refine gx_sto (i := 4) (d := 0) rfl (fun _ => rfl) rfl rfl (fun l39 hl39 ml39 => ?_)
    have l39_0 : en_ld l39 0 = some (gx_r 383) := ml39 0 _ l38_0 rfl
    have l39_1 : en_ld l39 1 = some (.inl (σ 7)) := ml39 1 _ l38_1 rfl
    have l39_2 : en_ld l39 2 = some (.inl (σ 8)) := ml39 2 _ l38_2 rfl
    have l39_3 : en_ld l39 3 = some (.inl 0) := ml39 3 _ hl38 rfl
    refine ex_go (S := (136, l39, [.inl 0], t133, n, 0)) rfl (fun _ => rfl) rfl ?_
    refine gx_sto (i := 5) (d := 0) rfl (fun _ => rfl) rfl rfl (fun l40 hl40 ml40 => ?_)
    have l40_0 : en_ld l40 0 = some (gx_r 383) := ml40 0 _ l39_0 rfl
    have l40_1 : en_ld l40 1 = some (.inl (σ 7)) := ml40 1 _ l39_1 rfl
    have l40_2 : en_ld l40 2 = some (.inl (σ 8)) := ml40 2 _ l39_2 rfl
    have l40_3 : en_ld l40 3 = some (.inl 0) := ml40 3 _ l39_3 rfl
    have l40_4 : en_ld l40 4 = some (.inl 4294967295) := ml40 4 _ hl39 rfl
    refine gx_ld (i := 5) (d := 0) (v := .inl 0) rfl (fun _ => rfl) hl40 rfl rfl ?_
    refine gx_ld (i := 1) (d := 0) (v := .inl (σ 7)) rfl (fun _ => rfl) l40_1 rfl rfl ?_
    refine gx_2t (c := .le) rfl (by first | decide | omega) (by first | decide | omega) (show 0 ≤ σ 7 from by omega) rfl ?_
    have hS0 : ∀ i, i ≤ 200 → ai_hv t133 404 i = some (.inl (psm (eatk w L σ 0) i)) := fun i hi => by
      have h9 := hN127 i hi
      rw [show 201 * 0 + i = i by omega] at h9
      exact ((e133 404 i (by first | decide | omega)).trans (e130 404 i (by first | decide | omega))).trans (h9)
    have hS1 : ∀ i, i ≤ 200 → ai_hv t133 404 (201 + i) = some (.inl (psm (eatk w L σ 1) i)) := fun i hi => by
      have h9 := hN133 i hi
      rw [show 201 * 1 + i = 201 + i by omega] at h9
      exact h9
    have hN9 := hN (by first | decide | omega)
    have he0 : ∀ k, (eatk w L σ 0) k ≤ 99 := fun _ => eatk_le
    have he1 : ∀ k, (eatk w L σ 1) k ≤ 99 := fun _ => eatk_le
    refine sh_0 d n g133 (by first | decide | omega) (by first | decide | omega) hS0 hS1 he0 he1 hN9 (fun cl1 be1 mo1 hm1 hF1 m0 m1 m2 m3 m4 m5 m6 => ?_) l40_0 l40_1 l40_2 l40_3 l40_4 hl40
    refine sh_m d n g133 (by first | decide | omega) (by first | decide | omega) hS0 hS1 he0 he1 hN9 (by decide) hF1 hm1 (fun cl2 be2 mo2 hm2 hF2 q0 q1 q2 q3 q4 q5 => ?_) m0 m1 m2 m3 m4 m5 m6
    exact sh_l d n g133 (by first | decide | omega) (by first | decide | omega) hS0 hS1 he0 he1 hN9 ⟨_, rfl, _, _, rfl, (fun _ => ⟨k34, rfl⟩), (fun z => absurd (by first | decide | omega) z), (e133 412 0 (by first | decide | omega)).trans ((e130 412 0 (by first | decide | omega)).trans ((e127 412 0 (by first | decide | omega)).trans ((e125 412 0 (by first | decide | omega)).trans (e124 412 0 (by first | decide | omega)))))⟩ 19999 _ be2 mo2 cl2 (by decide) (by decide) hm2 hF2 q0 q1 q2 q3 q4 q5
theorem gx_2fs {oc : Option (List en_V)} {f : en_F} {code : Nat → Option en_I} {stop : Nat → Bool} {P : en_O → Prop} {pc nx : Nat} {ls : en_L} {st : List en_V} {t : en_H} {n sl : Nat} {c : ClassFile.Cond} {j : Int} {x1 x2 x y : Nat} (hc : code pc = some (.if_icmp c j, nx, x1, x2)) (hx : x < 2147483648) (hy : y < 2147483648) (hr : ¬ gx_rel c x y) (hp : stop nx = true) (h : P (.inr (nx, ls, st, t, n, sl))) : en_ex oc f code stop (pc, ls, .inl y :: .inl x :: st, t, n, sl) P := by
  refine ex_stop (S := (nx, ls, st, t, n, sl)) hc (fun k => ?_) hp h
  show en_jump (en_rel c (.inl x) (.inl y)) x1 nx ls st t n sl k = _
  rw [en_rel_f hx hy (gx_rel_f hr)]
  rfl
theorem sc_boa191 (d n : Nat) {t0 : en_H} {b0 b1 : Nat} (g0 : ai_HG ah_G t0) (kK : ai_hv t0 206 5 = some (.inl 2)) (k0 : ai_hv t0 10 0 = some (.inl b0)) (k1 : ai_hv t0 10 1 = some (.inl b1)) (h0 : b0 ≤ 19998) (h1 : b1 ≤ 19998) : ∃ r, en_u (d + 1) 125 [gx_r 8, gx_r 191] t0 n = some r ∧ r = (some (.inl (b0 + b1)), t0, n, 0) := by
  refine en_u_ex rfl ?_
  show en_ex _ _ _ _ (0, [(0, gx_r 8), (1, gx_r 191)], [], t0, n, 0) _
  refine ex_go (S := (1, [(0, gx_r 8), (1, gx_r 191)], [.inl 0], t0, n, 0)) rfl (fun _ => rfl) rfl ?_
  refine ex_go (S := (2, [(2, .inl 0), (0, gx_r 8), (1, gx_r 191)], [], t0, n, 0)) rfl (fun _ => rfl) rfl ?_
  refine ex_go (S := (3, [(2, .inl 0), (0, gx_r 8), (1, gx_r 191)], [.inl 0], t0, n, 0)) rfl (fun _ => rfl) rfl ?_
  refine ex_go (S := (4, [(3, .inl 0), (2, .inl 0), (0, gx_r 8), (1, gx_r 191)], [], t0, n, 0)) rfl (fun _ => rfl) rfl ?_
  refine ex_go (S := (5, [(3, .inl 0), (2, .inl 0), (0, gx_r 8), (1, gx_r 191)], [.inl 0], t0, n, 0)) rfl (fun _ => rfl) rfl ?_
  refine ex_go (S := (6, [(3, .inl 0), (2, .inl 0), (0, gx_r 8), (1, gx_r 191)], [gx_r 191, .inl 0], t0, n, 0)) rfl (fun _ => rfl) rfl ?_
  refine gxo_ref (a := 191) (c := 206) rfl g0 rfl rfl rfl rfl rfl ?_
  refine gxo_get (a := 206) rfl g0 rfl rfl kK rfl ?_
  refine ex_go (S := (15, [(3, .inl 0), (2, .inl 0), (0, gx_r 8), (1, gx_r 191)], [], t0, n, 0)) rfl (fun _ => rfl) rfl ?_
  refine ex_go (S := (16, [(3, .inl 0), (2, .inl 0), (0, gx_r 8), (1, gx_r 191)], [.inl 0], t0, n, 0)) rfl (fun _ => rfl) rfl ?_
  refine ex_go (S := (17, [(3, .inl 0), (2, .inl 0), (0, gx_r 8), (1, gx_r 191)], [gx_r 8, .inl 0], t0, n, 0)) rfl (fun _ => rfl) rfl ?_
  refine gxo_ref (a := 8) (c := 10) rfl g0 rfl rfl rfl rfl rfl ?_
  refine ex_go (S := (21, [(3, .inl 0), (2, .inl 0), (0, gx_r 8), (1, gx_r 191)], [.inl 0, gx_r 10, .inl 0], t0, n, 0)) rfl (fun _ => rfl) rfl ?_
  refine gx_ag (v := .inl b0) (cb := fun c => Nat.beq c 0) rfl (fun _ => rfl) g0 rfl rfl k0 (by first | decide | omega) rfl ?_
  refine ex_iadd rfl (by first | decide | omega) rfl ?_
  refine ex_go (S := (24, [(2, .inl (0 + b0)), (3, .inl 0), (0, gx_r 8), (1, gx_r 191)], [], t0, n, 0)) rfl (fun _ => rfl) rfl ?_
  refine ex_go (S := (27, [(3, .inl 1), (2, .inl (0 + b0)), (0, gx_r 8), (1, gx_r 191)], [], t0, n, 0)) rfl (fun _ => rfl) rfl ?_
  refine ex_go (S := (4, [(3, .inl 1), (2, .inl (0 + b0)), (0, gx_r 8), (1, gx_r 191)], [], t0, n, 0)) rfl (fun _ => rfl) rfl ?_
  refine ex_go (S := (5, [(3, .inl 1), (2, .inl (0 + b0)), (0, gx_r 8), (1, gx_r 191)], [.inl 1], t0, n, 0)) rfl (fun _ => rfl) rfl ?_
  refine ex_go (S := (6, [(3, .inl 1), (2, .inl (0 + b0)), (0, gx_r 8), (1, gx_r 191)], [gx_r 191, .inl 1], t0, n, 0)) rfl (fun _ => rfl) rfl ?_
  refine gxo_ref (a := 191) (c := 206) rfl g0 rfl rfl rfl rfl rfl ?_
  refine gxo_get (a := 206) rfl g0 rfl rfl kK rfl ?_
  refine ex_go (S := (15, [(3, .inl 1), (2, .inl (0 + b0)), (0, gx_r 8), (1, gx_r 191)], [], t0, n, 0)) rfl (fun _ => rfl) rfl ?_
  refine ex_go (S := (16, [(3, .inl 1), (2, .inl (0 + b0)), (0, gx_r 8), (1, gx_r 191)], [.inl (0 + b0)], t0, n, 0)) rfl (fun _ => rfl) rfl ?_
  refine ex_go (S := (17, [(3, .inl 1), (2, .inl (0 + b0)), (0, gx_r 8), (1, gx_r 191)], [gx_r 8, .inl (0 + b0)], t0, n, 0)) rfl (fun _ => rfl) rfl ?_
  refine gxo_ref (a := 8) (c := 10) rfl g0 rfl rfl rfl rfl rfl ?_
  refine ex_go (S := (21, [(3, .inl 1), (2, .inl (0 + b0)), (0, gx_r 8), (1, gx_r 191)], [.inl 1, gx_r 10, .inl (0 + b0)], t0, n, 0)) rfl (fun _ => rfl) rfl ?_
  refine gx_ag (v := .inl b1) (cb := fun c => Nat.beq c 0) rfl (fun _ => rfl) g0 rfl rfl k1 (by first | decide | omega) rfl ?_
  refine ex_iadd rfl (by first | decide | omega) rfl ?_
  refine ex_go (S := (24, [(2, .inl ((0 + b0) + b1)), (3, .inl 1), (0, gx_r 8), (1, gx_r 191)], [], t0, n, 0)) rfl (fun _ => rfl) rfl ?_
  refine ex_go (S := (27, [(3, .inl 2), (2, .inl ((0 + b0) + b1)), (0, gx_r 8), (1, gx_r 191)], [], t0, n, 0)) rfl (fun _ => rfl) rfl ?_
  refine ex_go (S := (4, [(3, .inl 2), (2, .inl ((0 + b0) + b1)), (0, gx_r 8), (1, gx_r 191)], [], t0, n, 0)) rfl (fun _ => rfl) rfl ?_
  refine ex_go (S := (5, [(3, .inl 2), (2, .inl ((0 + b0) + b1)), (0, gx_r 8), (1, gx_r 191)], [.inl 2], t0, n, 0)) rfl (fun _ => rfl) rfl ?_
  refine ex_go (S := (6, [(3, .inl 2), (2, .inl ((0 + b0) + b1)), (0, gx_r 8), (1, gx_r 191)], [gx_r 191, .inl 2], t0, n, 0)) rfl (fun _ => rfl) rfl ?_
  refine gxo_ref (a := 191) (c := 206) rfl g0 rfl rfl rfl rfl rfl ?_
  refine gxo_get (a := 206) rfl g0 rfl rfl kK rfl ?_
  refine ex_go (S := (30, [(3, .inl 2), (2, .inl ((0 + b0) + b1)), (0, gx_r 8), (1, gx_r 191)], [], t0, n, 0)) rfl (fun _ => rfl) rfl ?_
  refine ex_go (S := (31, [(3, .inl 2), (2, .inl ((0 + b0) + b1)), (0, gx_r 8), (1, gx_r 191)], [.inl ((0 + b0) + b1)], t0, n, 0)) rfl (fun _ => rfl) rfl ?_
  refine ex_ret (r := (some (.inl ((0 + b0) + b1)), t0, n, 0)) rfl (fun _ => rfl) ?_
  exact ⟨_, rfl, by rw [Nat.zero_add]⟩
theorem sc_sh191_l (d n : Nat) {tb : en_H} {w : Nat → Nat → Nat} {L : List Nat} {σ : Nat → Nat} {T : Nat} {Q : en_O → Prop} (hC : CW tb 191 w L) (hw : WS w) (hS : SC tb 8 (w 0 2) (w 0 4) σ) (k10 : ai_hv tb 0 10 = some (gx_r 191)) (hB : σ 0 ≤ 900000) (hK2 : w 0 4 = 2) (ho : ∀ c, c < w 0 4 → σ (11 + c) ≤ 1 ∧ σ (7 + c) ≤ 19998) (hT : T ≤ 40000) (hQ : ∀ cl t1 N, Nsp (psm (eatk w L σ 0)) (psm (eatk w L σ 1)) T N → ai_HG ah_G t1 → (∀ c i, c ≠ 231 → ai_hv t1 c i = ai_hv tb c i) → en_ld cl 0 = some (gx_r 0) → en_ld cl 2 = some (.inl (psm (eatk w L σ 0) N)) → en_ld cl 3 = some (.inl (psm (eatk w L σ 1) N)) → en_ex none (en_u (d + 4)) (en_code 89) (fun _ => false) (127, cl, [], t1, n, 0) Q) : ∀ j k cl t0, k + j = 200 → psm (eatk w L σ 0) k + psm (eatk w L σ 1) k ≤ T → ai_HG ah_G t0 → (∀ c i, c ≠ 231 → ai_hv t0 c i = ai_hv tb c i) → en_ld cl 0 = some (gx_r 0) → en_ld cl 1 = some (.inl T) → en_ld cl 2 = some (.inl (psm (eatk w L σ 0) k)) → en_ld cl 3 = some (.inl (psm (eatk w L σ 1) k)) → en_ld cl 4 = some (.inl k) → en_ex none (en_u (d + 4)) (en_code 89) (fun _ => false) (43, cl, [], t0, n, 0) Q := by
  intro j
  induction j with
  | zero =>
    intro k cl t0 hj hT9 g0 e0 l0 l1 l2 l3 l4
    refine gx_ld (i := 4) (d := 0) (v := .inl k) rfl (fun _ => rfl) l4 rfl rfl ?_
    refine ex_go (S := (48, cl, [.inl 200, .inl k], t0, n, 0)) rfl (fun _ => rfl) rfl ?_
    refine gx_2t (c := .ge) rfl (by first | decide | omega) (by first | decide | omega) (show 200 ≤ k from by omega) rfl ?_
    exact hQ _ _ k ⟨by omega, hT9, Or.inl (by first | decide | omega)⟩ g0 e0 l0 l2 l3
  | succ j ih =>
    intro k cl t0 hj hT9 g0 e0 l0 l1 l2 l3 l4
    have hp0 := psm_le (e := eatk w L σ 0) (fun _ => eatk_le) k
    have hp1 := psm_le (e := eatk w L σ 1) (fun _ => eatk_le) k
    have hq0 := eatk_le (w := w) (L := L) (σ := σ) (c := 0) (k := k)
    have hq1 := eatk_le (w := w) (L := L) (σ := σ) (c := 1) (k := k)
    have hm0 := (hw.2.1 0 (by first | decide | omega)).2.1
    have hm1 := (hw.2.1 1 (by first | decide | omega)).2.1
    have km0 := (hC.2.2.1 0 (by first | decide | omega)).2.1
    have km1 := (hC.2.2.1 1 (by first | decide | omega)).2.1
    have ko0 := (hS.2.2 0 (by first | decide | omega)).2.2.1
    have ko1 := (hS.2.2 1 (by first | decide | omega)).2.2.1
    have ho0 := (ho 0 (by first | decide | omega)).1
    have ho1 := (ho 1 (by first | decide | omega)).1
    have kL := hC.2.2.2.2.2.1
    have hs := hC.2.2.2.2.2.2.1
    have hv9 := hC.2.2.2.2.2.2.2.1
    have hr9 := hC.2.2.2.2.2.2.2.2
    refine gx_ld (i := 4) (d := 0) (v := .inl k) rfl (fun _ => rfl) l4 rfl rfl ?_
    refine ex_go (S := (48, cl, [.inl 200, .inl k], t0, n, 0)) rfl (fun _ => rfl) rfl ?_
    refine gx_2f (c := .ge) rfl (by first | decide | omega) (by first | decide | omega) (show ¬ (200 ≤ k) from by omega) rfl ?_
    refine gx_ld (i := 2) (d := 0) (v := .inl (psm (eatk w L σ 0) k)) rfl (fun _ => rfl) l2 rfl rfl ?_
    refine gx_ld (i := 0) (d := 2) (v := gx_r 0) rfl (fun _ => rfl) l0 rfl rfl ?_
    refine gxo_ref (a := 0) (c := 8) rfl g0 rfl rfl rfl rfl rfl ?_
    refine gx_ld (i := 0) (d := 2) (v := gx_r 0) rfl (fun _ => rfl) l0 rfl rfl ?_
    refine gxo_get (a := 0) rfl g0 rfl rfl ((e0 0 10 (by first | decide | omega)).trans k10) rfl ?_
    refine ex_go (S := (61, cl, [.inl 0, gx_r 191, gx_r 8, .inl (psm (eatk w L σ 0) k)], t0, n, 0)) rfl (fun _ => rfl) rfl ?_
    refine gx_ld (i := 0) (d := 2) (v := gx_r 0) rfl (fun _ => rfl) l0 rfl rfl ?_
    refine gxo_ref (a := 0) (c := 8) rfl g0 rfl rfl rfl rfl rfl ?_
    refine gxo_get (a := 8) rfl g0 rfl rfl ((e0 8 0 (by first | decide | omega)).trans hS.1) rfl ?_
    refine gx_ld (i := 4) (d := 0) (v := .inl k) rfl (fun _ => rfl) l4 rfl rfl ?_
    refine ex_iadd rfl (by first | decide | omega) rfl ?_
    obtain ⟨_, r121, t121, rfl, g121, e121⟩ := sc_app8_191 (d + 1) n (L := L) (c := 0) (me := w 2 0) (ti := σ 0 + k) (ou := σ (11 + 0)) g0 (by first | decide | omega) ((e0 209 0 (by first | decide | omega)).trans km0) (by first | decide | omega) ((e0 12 0 (by first | decide | omega)).trans ko0) (by first | decide | omega) (by first | decide | omega) (CLs_keep kL (e0 230 2 (by first | decide | omega)) (fun j => e0 232 j (by first | decide | omega))) hs hv9 hr9
    refine gx_callo (a := 8) rfl rfl g0 rfl rfl rfl r121 rfl ?_
    have k22 : ai_hv t121 0 10 = some (gx_r 191) := (e121 0 10 (by first | decide | omega)).trans ((e0 0 10 (by first | decide | omega)).trans k10)
    have k23 : ai_hv t121 8 0 = some (.inl (σ 0)) := (e121 8 0 (by first | decide | omega)).trans ((e0 8 0 (by first | decide | omega)).trans hS.1)
    show en_ex _ _ _ _ (74, cl, [.inl (eatk w L σ 0 k), .inl (psm (eatk w L σ 0) k)], t121, n, 0) _
    refine ex_iadd rfl (by first | decide | omega) rfl ?_
    refine gx_sto (i := 5) (d := 0) rfl (fun _ => rfl) rfl rfl (fun l24 hl24 ml24 => ?_)
    have l24_0 : en_ld l24 0 = some (gx_r 0) := ml24 0 _ l0 rfl
    have l24_1 : en_ld l24 1 = some (.inl T) := ml24 1 _ l1 rfl
    have l24_2 : en_ld l24 2 = some (.inl (psm (eatk w L σ 0) k)) := ml24 2 _ l2 rfl
    have l24_3 : en_ld l24 3 = some (.inl (psm (eatk w L σ 1) k)) := ml24 3 _ l3 rfl
    have l24_4 : en_ld l24 4 = some (.inl k) := ml24 4 _ l4 rfl
    refine gx_ld (i := 3) (d := 0) (v := .inl (psm (eatk w L σ 1) k)) rfl (fun _ => rfl) l24_3 rfl rfl ?_
    refine gx_ld (i := 0) (d := 2) (v := gx_r 0) rfl (fun _ => rfl) l24_0 rfl rfl ?_
    refine gxo_ref (a := 0) (c := 8) rfl g121 rfl rfl rfl rfl rfl ?_
    refine gx_ld (i := 0) (d := 2) (v := gx_r 0) rfl (fun _ => rfl) l24_0 rfl rfl ?_
    refine gxo_get (a := 0) rfl g121 rfl rfl k22 rfl ?_
    refine ex_go (S := (87, l24, [.inl 1, gx_r 191, gx_r 8, .inl (psm (eatk w L σ 1) k)], t121, n, 0)) rfl (fun _ => rfl) rfl ?_
    refine gx_ld (i := 0) (d := 2) (v := gx_r 0) rfl (fun _ => rfl) l24_0 rfl rfl ?_
    refine gxo_ref (a := 0) (c := 8) rfl g121 rfl rfl rfl rfl rfl ?_
    refine gxo_get (a := 8) rfl g121 rfl rfl k23 rfl ?_
    refine gx_ld (i := 4) (d := 0) (v := .inl k) rfl (fun _ => rfl) l24_4 rfl rfl ?_
    refine ex_iadd rfl (by first | decide | omega) rfl ?_
    obtain ⟨_, r125, t125, rfl, g125, e125⟩ := sc_app8_191 (d + 1) n (L := L) (c := 1) (me := w 2 1) (ti := σ 0 + k) (ou := σ (11 + 1)) g121 (by first | decide | omega) (((e121 209 1 (by first | decide | omega)).trans (e0 209 1 (by first | decide | omega))).trans km1) (by first | decide | omega) (((e121 12 1 (by first | decide | omega)).trans (e0 12 1 (by first | decide | omega))).trans ko1) (by first | decide | omega) (by first | decide | omega) (CLs_keep kL ((e121 230 2 (by first | decide | omega)).trans (e0 230 2 (by first | decide | omega))) (fun j => (e121 232 j (by first | decide | omega)).trans (e0 232 j (by first | decide | omega)))) hs hv9 hr9
    refine gx_callo (a := 8) rfl rfl g121 rfl rfl rfl r125 rfl ?_
    have k26 : ai_hv t125 0 10 = some (gx_r 191) := (e125 0 10 (by first | decide | omega)).trans k22
    have k27 : ai_hv t125 8 0 = some (.inl (σ 0)) := (e125 8 0 (by first | decide | omega)).trans k23
    show en_ex _ _ _ _ (100, l24, [.inl (eatk w L σ 1 k), .inl (psm (eatk w L σ 1) k)], t125, n, 0) _
    refine ex_iadd rfl (by first | decide | omega) rfl ?_
    refine gx_sto (i := 6) (d := 0) rfl (fun _ => rfl) rfl rfl (fun l28 hl28 ml28 => ?_)
    have l28_0 : en_ld l28 0 = some (gx_r 0) := ml28 0 _ l24_0 rfl
    have l28_1 : en_ld l28 1 = some (.inl T) := ml28 1 _ l24_1 rfl
    have l28_2 : en_ld l28 2 = some (.inl (psm (eatk w L σ 0) k)) := ml28 2 _ l24_2 rfl
    have l28_3 : en_ld l28 3 = some (.inl (psm (eatk w L σ 1) k)) := ml28 3 _ l24_3 rfl
    have l28_4 : en_ld l28 4 = some (.inl k) := ml28 4 _ l24_4 rfl
    have l28_5 : en_ld l28 5 = some (.inl ((psm (eatk w L σ 0) k) + (eatk w L σ 0 k))) := ml28 5 _ hl24 rfl
    refine gx_ld (i := 5) (d := 0) (v := .inl ((psm (eatk w L σ 0) k) + (eatk w L σ 0 k))) rfl (fun _ => rfl) l28_5 rfl rfl ?_
    refine gx_ld (i := 6) (d := 0) (v := .inl ((psm (eatk w L σ 1) k) + (eatk w L σ 1 k))) rfl (fun _ => rfl) hl28 rfl rfl ?_
    refine ex_iadd rfl (by first | decide | omega) rfl ?_
    refine gx_ld (i := 1) (d := 0) (v := .inl T) rfl (fun _ => rfl) l28_1 rfl rfl ?_
    by_cases hc29 : ((psm (eatk w L σ 0) k) + (eatk w L σ 0 k)) + ((psm (eatk w L σ 1) k) + (eatk w L σ 1 k)) ≤ T
    · refine gx_2t (c := .le) rfl (by first | decide | omega) (by first | decide | omega) hc29 rfl ?_
      refine gx_ld (i := 5) (d := 0) (v := .inl ((psm (eatk w L σ 0) k) + (eatk w L σ 0 k))) rfl (fun _ => rfl) l28_5 rfl rfl ?_
      refine gx_sto (i := 2) (d := 0) rfl (fun _ => rfl) rfl rfl (fun l30 hl30 ml30 => ?_)
      have l30_0 : en_ld l30 0 = some (gx_r 0) := ml30 0 _ l28_0 rfl
      have l30_1 : en_ld l30 1 = some (.inl T) := ml30 1 _ l28_1 rfl
      have l30_3 : en_ld l30 3 = some (.inl (psm (eatk w L σ 1) k)) := ml30 3 _ l28_3 rfl
      have l30_4 : en_ld l30 4 = some (.inl k) := ml30 4 _ l28_4 rfl
      have l30_5 : en_ld l30 5 = some (.inl ((psm (eatk w L σ 0) k) + (eatk w L σ 0 k))) := ml30 5 _ l28_5 rfl
      have l30_6 : en_ld l30 6 = some (.inl ((psm (eatk w L σ 1) k) + (eatk w L σ 1 k))) := ml30 6 _ hl28 rfl
      refine gx_ld (i := 6) (d := 0) (v := .inl ((psm (eatk w L σ 1) k) + (eatk w L σ 1 k))) rfl (fun _ => rfl) l30_6 rfl rfl ?_
      refine gx_sto (i := 3) (d := 0) rfl (fun _ => rfl) rfl rfl (fun l31 hl31 ml31 => ?_)
      have l31_0 : en_ld l31 0 = some (gx_r 0) := ml31 0 _ l30_0 rfl
      have l31_1 : en_ld l31 1 = some (.inl T) := ml31 1 _ l30_1 rfl
      have l31_4 : en_ld l31 4 = some (.inl k) := ml31 4 _ l30_4 rfl
      have l31_5 : en_ld l31 5 = some (.inl ((psm (eatk w L σ 0) k) + (eatk w L σ 0 k))) := ml31 5 _ l30_5 rfl
      have l31_6 : en_ld l31 6 = some (.inl ((psm (eatk w L σ 1) k) + (eatk w L σ 1 k))) := ml31 6 _ l30_6 rfl
      have l31_2 : en_ld l31 2 = some (.inl ((psm (eatk w L σ 0) k) + (eatk w L σ 0 k))) := ml31 2 _ hl30 rfl
      refine gx_incS (i := 4) (a := k) (x := 1) rfl (fun _ => rfl) l31_4 (by first | decide | omega) rfl (fun l32 hl32 ml32 => ?_)
      have l32_0 : en_ld l32 0 = some (gx_r 0) := ml32 0 _ l31_0 rfl
      have l32_1 : en_ld l32 1 = some (.inl T) := ml32 1 _ l31_1 rfl
      have l32_5 : en_ld l32 5 = some (.inl ((psm (eatk w L σ 0) k) + (eatk w L σ 0 k))) := ml32 5 _ l31_5 rfl
      have l32_6 : en_ld l32 6 = some (.inl ((psm (eatk w L σ 1) k) + (eatk w L σ 1 k))) := ml32 6 _ l31_6 rfl
      have l32_2 : en_ld l32 2 = some (.inl ((psm (eatk w L σ 0) k) + (eatk w L σ 0 k))) := ml32 2 _ l31_2 rfl
      have l32_3 : en_ld l32 3 = some (.inl ((psm (eatk w L σ 1) k) + (eatk w L σ 1 k))) := ml32 3 _ hl31 rfl
      refine ex_go (S := (43, l32, [], t125, n, 0)) rfl (fun _ => rfl) rfl ?_
      exact ih (k + 1) _ _ (by first | decide | omega) (show (psm (eatk w L σ 0) k + eatk w L σ 0 k) + (psm (eatk w L σ 1) k + eatk w L σ 1 k) ≤ T from by omega) g125 (fun c i h => (e125 c i h).trans ((e121 c i h).trans (e0 c i h))) l32_0 l32_1 l32_2 l32_3 hl32
    · refine gx_2f (c := .le) rfl (by first | decide | omega) (by first | decide | omega) hc29 rfl ?_
      refine ex_go (S := (127, l28, [], t125, n, 0)) rfl (fun _ => rfl) rfl ?_
      exact hQ _ _ k ⟨by omega, hT9, Or.inr (by
        show T < (psm (eatk w L σ 0) k + eatk w L σ 0 k) + (psm (eatk w L σ 1) k + eatk w L σ 1 k)
        omega)⟩ g125 (fun c i h => (e125 c i h).trans ((e121 c i h).trans (e0 c i h))) l28_0 l28_2 l28_3
theorem sc_share191 (d n : Nat) {t0 : en_H} {w : Nat → Nat → Nat} {L : List Nat} {σ : Nat → Nat} (g0 : ai_HG ah_G t0) (hC : CW t0 191 w L) (hw : WS w) (hS : SC t0 8 (w 0 2) (w 0 4) σ) (k10 : ai_hv t0 0 10 = some (gx_r 191)) (hB : σ 0 ≤ 900000) (ho : ∀ c, c < w 0 4 → σ (11 + c) ≤ 1 ∧ σ (7 + c) ≤ 19998) (hK2 : w 0 4 = 2) : ∃ r, en_u (d + 5) 89 [gx_r 0] t0 n = some r ∧ ∃ v t', r = (some (.inl v), t', n, 0) ∧ ai_HG ah_G t' ∧ (∀ c i, c ≠ 231 → ai_hv t' c i = ai_hv t0 c i) ∧ ∃ N, Nsp (psm (eatk w L σ 0)) (psm (eatk w L σ 1)) (σ 7 + σ 8) N ∧ v = shA (σ 7) (σ 8) (psm (eatk w L σ 0) N) (psm (eatk w L σ 1) N) := by
  have hh7 : σ 7 ≤ 19998 := (ho 0 (by first | decide | omega)).2
  have hh8 : σ 8 ≤ 19998 := (ho 1 (by first | decide | omega)).2
  have kb0 : ai_hv t0 10 0 = some (.inl (σ 7)) := (hS.2.2 0 (by first | decide | omega)).1
  have kb1 : ai_hv t0 10 1 = some (.inl (σ 8)) := (hS.2.2 1 (by first | decide | omega)).1
  have kK : ai_hv t0 206 5 = some (.inl 2) := by rw [← hK2]; exact hC.1.2.2.2.2.2
  refine en_u_ex (d := d + 4) rfl ?_
  show en_ex _ _ _ _ (0, [(0, gx_r 0)], [], t0, n, 0) _
  refine ex_go (S := (1, [(0, gx_r 0)], [gx_r 0], t0, n, 0)) rfl (fun _ => rfl) rfl ?_
  refine gxo_get (a := 0) rfl g0 rfl rfl k10 rfl ?_
  refine gxo_ref (a := 191) (c := 206) rfl g0 rfl rfl rfl rfl rfl ?_
  refine gxo_get (a := 206) rfl g0 rfl rfl kK rfl ?_
  refine ex_go (S := (11, [(0, gx_r 0)], [.inl 2, .inl 2], t0, n, 0)) rfl (fun _ => rfl) rfl ?_
  refine ex_go (S := (24, [(0, gx_r 0)], [], t0, n, 0)) rfl (fun _ => rfl) rfl ?_
  refine ex_go (S := (25, [(0, gx_r 0)], [gx_r 0], t0, n, 0)) rfl (fun _ => rfl) rfl ?_
  refine gxo_ref (a := 0) (c := 8) rfl g0 rfl rfl rfl rfl rfl ?_
  refine ex_go (S := (29, [(0, gx_r 0)], [gx_r 0, gx_r 8], t0, n, 0)) rfl (fun _ => rfl) rfl ?_
  refine gxo_get (a := 0) rfl g0 rfl rfl k10 rfl ?_
  obtain ⟨_, r21, rfl⟩ := sc_boa191 (d + 3) n g0 kK kb0 kb1 hh7 hh8
  refine gx_callo (a := 8) rfl rfl g0 rfl rfl rfl r21 rfl ?_
  show en_ex _ _ _ _ (35, [(0, gx_r 0)], [.inl (σ 7 + σ 8)], t0, n, 0) _
  refine ex_go (S := (36, [(1, .inl (σ 7 + σ 8)), (0, gx_r 0)], [], t0, n, 0)) rfl (fun _ => rfl) rfl ?_
  refine ex_go (S := (37, [(1, .inl (σ 7 + σ 8)), (0, gx_r 0)], [.inl 0], t0, n, 0)) rfl (fun _ => rfl) rfl ?_
  refine ex_go (S := (38, [(2, .inl 0), (1, .inl (σ 7 + σ 8)), (0, gx_r 0)], [], t0, n, 0)) rfl (fun _ => rfl) rfl ?_
  refine ex_go (S := (39, [(2, .inl 0), (1, .inl (σ 7 + σ 8)), (0, gx_r 0)], [.inl 0], t0, n, 0)) rfl (fun _ => rfl) rfl ?_
  refine ex_go (S := (40, [(3, .inl 0), (2, .inl 0), (1, .inl (σ 7 + σ 8)), (0, gx_r 0)], [], t0, n, 0)) rfl (fun _ => rfl) rfl ?_
  refine ex_go (S := (41, [(3, .inl 0), (2, .inl 0), (1, .inl (σ 7 + σ 8)), (0, gx_r 0)], [.inl 0], t0, n, 0)) rfl (fun _ => rfl) rfl ?_
  refine ex_go (S := (43, [(4, .inl 0), (3, .inl 0), (2, .inl 0), (1, .inl (σ 7 + σ 8)), (0, gx_r 0)], [], t0, n, 0)) rfl (fun _ => rfl) rfl ?_
  refine sc_sh191_l d n (tb := t0) (T := σ 7 + σ 8) hC hw hS k10 hB hK2 ho (by first | decide | omega) (fun cl t1 N hN g1 e1 m0 m2 m3 => ?_) 200 0 _ t0 (by first | decide | omega) (Nat.zero_le _) g0 (fun _ _ _ => rfl) rfl rfl rfl rfl rfl
  have hp0 := psm_le (e := eatk w L σ 0) (fun _ => eatk_le) N
  have hp1 := psm_le (e := eatk w L σ 1) (fun _ => eatk_le) N
  have hN1 := hN.1
  have hN2 := hN.2.1
  obtain ⟨f, ef⟩ : ∃ f, f = psm (eatk w L σ 0) N := ⟨_, rfl⟩
  obtain ⟨g, eg⟩ : ∃ g, g = psm (eatk w L σ 1) N := ⟨_, rfl⟩
  rw [← ef] at m2 hp0 hN2
  rw [← eg] at m3 hp1 hN2
  have hsc := sh_cs hN2
  refine gx_ld (i := 3) (d := 0) (v := .inl g) rfl (fun _ => rfl) m3 rfl rfl ?_
  refine gx_ld (i := 0) (d := 2) (v := gx_r 0) rfl (fun _ => rfl) m0 rfl rfl ?_
  refine gxo_ref (a := 0) (c := 8) rfl g1 rfl rfl rfl rfl rfl ?_
  refine gxo_ref (a := 8) (c := 10) rfl g1 rfl rfl rfl rfl rfl ?_
  refine ex_go (S := (136, cl, [.inl 1, gx_r 10, .inl g], t1, n, 0)) rfl (fun _ => rfl) rfl ?_
  refine gx_ag (v := .inl (σ 8)) (cb := fun c => Nat.beq c 0) rfl (fun _ => rfl) g1 rfl rfl ((e1 10 1 (by first | decide | omega)).trans kb1) (by first | decide | omega) rfl ?_
  by_cases hsb137 : σ 8 ≤ g
  · refine gx_isub rfl (by first | decide | omega) (by first | decide | omega) rfl ?_
    refine gx_sto (i := 4) (d := 0) rfl (fun _ => rfl) rfl rfl (fun l22 hl22 ml22 => ?_)
    have l22_0 : en_ld l22 0 = some (gx_r 0) := ml22 0 _ m0 rfl
    have l22_2 : en_ld l22 2 = some (.inl f) := ml22 2 _ m2 rfl
    have l22_3 : en_ld l22 3 = some (.inl g) := ml22 3 _ m3 rfl
    refine gx_ld (i := 0) (d := 2) (v := gx_r 0) rfl (fun _ => rfl) l22_0 rfl rfl ?_
    refine gxo_ref (a := 0) (c := 8) rfl g1 rfl rfl rfl rfl rfl ?_
    refine gxo_ref (a := 8) (c := 10) rfl g1 rfl rfl rfl rfl rfl ?_
    refine ex_go (S := (148, l22, [.inl 0, gx_r 10], t1, n, 0)) rfl (fun _ => rfl) rfl ?_
    refine gx_ag (v := .inl (σ 7)) (cb := fun c => Nat.beq c 0) rfl (fun _ => rfl) g1 rfl rfl ((e1 10 0 (by first | decide | omega)).trans kb0) (by first | decide | omega) rfl ?_
    refine gx_ld (i := 2) (d := 0) (v := .inl f) rfl (fun _ => rfl) l22_2 rfl rfl ?_
    by_cases hsb150 : f ≤ σ 7
    · refine gx_isub rfl (by first | decide | omega) (by first | decide | omega) rfl ?_
      refine gx_sto (i := 5) (d := 0) rfl (fun _ => rfl) rfl rfl (fun l23 hl23 ml23 => ?_)
      have l23_0 : en_ld l23 0 = some (gx_r 0) := ml23 0 _ l22_0 rfl
      have l23_2 : en_ld l23 2 = some (.inl f) := ml23 2 _ l22_2 rfl
      have l23_3 : en_ld l23 3 = some (.inl g) := ml23 3 _ l22_3 rfl
      have l23_4 : en_ld l23 4 = some (.inl (g - (σ 8))) := ml23 4 _ hl22 rfl
      refine gx_ld (i := 4) (d := 0) (v := .inl (g - (σ 8))) rfl (fun _ => rfl) l23_4 rfl rfl ?_
      by_cases hc24 : g - (σ 8) ≤ 0
      · refine gx_1t (c := .le) rfl (by first | decide | omega) hc24 rfl ?_
        refine gx_ld (i := 5) (d := 0) (v := .inl ((σ 7) - f)) rfl (fun _ => rfl) hl23 rfl rfl ?_
        refine gx_1t (c := .ge) rfl (by first | decide | omega) (show 0 ≤ (σ 7) - f from by omega) rfl ?_
        refine ex_go (S := (172, l23, [.inl 0], t1, n, 0)) rfl (fun _ => rfl) rfl ?_
        refine ex_ret (r := (some (.inl 0), t1, n, 0)) rfl (fun _ => rfl) ?_
        exact ⟨_, rfl, _, t1, rfl, g1, e1, N, hN, by
          rw [← ef, ← eg]
          exact (by rcases hsc with ⟨c1, c2, c3⟩ | ⟨c0, c1, c2, c3⟩ | ⟨c0, c1, c2, c3⟩ <;> omega)⟩
      · refine gx_1f (c := .le) rfl (by first | decide | omega) hc24 rfl ?_
        refine gx_ld (i := 4) (d := 0) (v := .inl (g - (σ 8))) rfl (fun _ => rfl) l23_4 rfl rfl ?_
        refine ex_ret (r := (some (.inl (g - (σ 8))), t1, n, 0)) rfl (fun _ => rfl) ?_
        exact ⟨_, rfl, _, t1, rfl, g1, e1, N, hN, by
          rw [← ef, ← eg]
          exact (by rcases hsc with ⟨c1, c2, c3⟩ | ⟨c0, c1, c2, c3⟩ | ⟨c0, c1, c2, c3⟩ <;> omega)⟩
    · refine gx_isubn rfl (by first | decide | omega) (by first | decide | omega) rfl (fun z25 z25a z25b z25c => ?_)
      refine gx_sto (i := 5) (d := 0) rfl (fun _ => rfl) rfl rfl (fun l26 hl26 ml26 => ?_)
      have l26_0 : en_ld l26 0 = some (gx_r 0) := ml26 0 _ l22_0 rfl
      have l26_2 : en_ld l26 2 = some (.inl f) := ml26 2 _ l22_2 rfl
      have l26_3 : en_ld l26 3 = some (.inl g) := ml26 3 _ l22_3 rfl
      have l26_4 : en_ld l26 4 = some (.inl (g - (σ 8))) := ml26 4 _ hl22 rfl
      refine gx_ld (i := 4) (d := 0) (v := .inl (g - (σ 8))) rfl (fun _ => rfl) l26_4 rfl rfl ?_
      by_cases hc27 : g - (σ 8) ≤ 0
      · refine gx_1t (c := .le) rfl (by first | decide | omega) hc27 rfl ?_
        refine gx_ld (i := 5) (d := 0) (v := .inl z25) rfl (fun _ => rfl) hl26 rfl rfl ?_
        refine gx_negf (c := .ge) rfl (by first | decide | omega) (by first | decide | omega) rfl rfl ?_
        refine gx_ld (i := 5) (d := 0) (v := .inl z25) rfl (fun _ => rfl) hl26 rfl rfl ?_
        refine ex_go (S := (172, l26, [.inl z25], t1, n, 0)) rfl (fun _ => rfl) rfl ?_
        refine ex_ret (r := (some (.inl z25), t1, n, 0)) rfl (fun _ => rfl) ?_
        exact ⟨_, rfl, _, t1, rfl, g1, e1, N, hN, by
          rw [← ef, ← eg]
          exact (by
          rcases hsc with ⟨c1, c2, c3⟩ | ⟨c0, c1, c2, c3⟩ | ⟨c0, c1, c2, c3⟩
          · omega
          · rw [c3, ng_p (by first | decide | omega) (by first | decide | omega)]; omega
          · omega)⟩
      · refine gx_1f (c := .le) rfl (by first | decide | omega) hc27 rfl ?_
        refine gx_ld (i := 4) (d := 0) (v := .inl (g - (σ 8))) rfl (fun _ => rfl) l26_4 rfl rfl ?_
        refine ex_ret (r := (some (.inl (g - (σ 8))), t1, n, 0)) rfl (fun _ => rfl) ?_
        exact ⟨_, rfl, _, t1, rfl, g1, e1, N, hN, by
          rw [← ef, ← eg]
          exact (by
          rcases hsc with ⟨c1, c2, c3⟩ | ⟨c0, c1, c2, c3⟩ | ⟨c0, c1, c2, c3⟩
          · omega
          · rw [c3, ng_p (by first | decide | omega) (by first | decide | omega)]; omega
          · omega)⟩
  · refine gx_isubn rfl (by first | decide | omega) (by first | decide | omega) rfl (fun z28 z28a z28b z28c => ?_)
    refine gx_sto (i := 4) (d := 0) rfl (fun _ => rfl) rfl rfl (fun l29 hl29 ml29 => ?_)
    have l29_0 : en_ld l29 0 = some (gx_r 0) := ml29 0 _ m0 rfl
    have l29_2 : en_ld l29 2 = some (.inl f) := ml29 2 _ m2 rfl
    have l29_3 : en_ld l29 3 = some (.inl g) := ml29 3 _ m3 rfl
    refine gx_ld (i := 0) (d := 2) (v := gx_r 0) rfl (fun _ => rfl) l29_0 rfl rfl ?_
    refine gxo_ref (a := 0) (c := 8) rfl g1 rfl rfl rfl rfl rfl ?_
    refine gxo_ref (a := 8) (c := 10) rfl g1 rfl rfl rfl rfl rfl ?_
    refine ex_go (S := (148, l29, [.inl 0, gx_r 10], t1, n, 0)) rfl (fun _ => rfl) rfl ?_
    refine gx_ag (v := .inl (σ 7)) (cb := fun c => Nat.beq c 0) rfl (fun _ => rfl) g1 rfl rfl ((e1 10 0 (by first | decide | omega)).trans kb0) (by first | decide | omega) rfl ?_
    refine gx_ld (i := 2) (d := 0) (v := .inl f) rfl (fun _ => rfl) l29_2 rfl rfl ?_
    by_cases hsb150 : f ≤ σ 7
    · refine gx_isub rfl (by first | decide | omega) (by first | decide | omega) rfl ?_
      refine gx_sto (i := 5) (d := 0) rfl (fun _ => rfl) rfl rfl (fun l30 hl30 ml30 => ?_)
      have l30_0 : en_ld l30 0 = some (gx_r 0) := ml30 0 _ l29_0 rfl
      have l30_2 : en_ld l30 2 = some (.inl f) := ml30 2 _ l29_2 rfl
      have l30_3 : en_ld l30 3 = some (.inl g) := ml30 3 _ l29_3 rfl
      have l30_4 : en_ld l30 4 = some (.inl z28) := ml30 4 _ hl29 rfl
      refine gx_ld (i := 4) (d := 0) (v := .inl z28) rfl (fun _ => rfl) l30_4 rfl rfl ?_
      refine gx_negt (c := .le) rfl (by first | decide | omega) (by first | decide | omega) rfl rfl ?_
      refine gx_ld (i := 5) (d := 0) (v := .inl ((σ 7) - f)) rfl (fun _ => rfl) hl30 rfl rfl ?_
      refine gx_1t (c := .ge) rfl (by first | decide | omega) (show 0 ≤ (σ 7) - f from by omega) rfl ?_
      refine ex_go (S := (172, l30, [.inl 0], t1, n, 0)) rfl (fun _ => rfl) rfl ?_
      refine ex_ret (r := (some (.inl 0), t1, n, 0)) rfl (fun _ => rfl) ?_
      exact ⟨_, rfl, _, t1, rfl, g1, e1, N, hN, by
        rw [← ef, ← eg]
        exact (by rcases hsc with ⟨c1, c2, c3⟩ | ⟨c0, c1, c2, c3⟩ | ⟨c0, c1, c2, c3⟩ <;> omega)⟩
    · refine gx_isubn rfl (by first | decide | omega) (by first | decide | omega) rfl (fun z31 z31a z31b z31c => ?_)
      refine gx_sto (i := 5) (d := 0) rfl (fun _ => rfl) rfl rfl (fun l32 hl32 ml32 => ?_)
      have l32_0 : en_ld l32 0 = some (gx_r 0) := ml32 0 _ l29_0 rfl
      have l32_2 : en_ld l32 2 = some (.inl f) := ml32 2 _ l29_2 rfl
      have l32_3 : en_ld l32 3 = some (.inl g) := ml32 3 _ l29_3 rfl
      have l32_4 : en_ld l32 4 = some (.inl z28) := ml32 4 _ hl29 rfl
      refine gx_ld (i := 4) (d := 0) (v := .inl z28) rfl (fun _ => rfl) l32_4 rfl rfl ?_
      refine gx_negt (c := .le) rfl (by first | decide | omega) (by first | decide | omega) rfl rfl ?_
      refine gx_ld (i := 5) (d := 0) (v := .inl z31) rfl (fun _ => rfl) hl32 rfl rfl ?_
      refine gx_negf (c := .ge) rfl (by first | decide | omega) (by first | decide | omega) rfl rfl ?_
      refine gx_ld (i := 5) (d := 0) (v := .inl z31) rfl (fun _ => rfl) hl32 rfl rfl ?_
      refine ex_go (S := (172, l32, [.inl z31], t1, n, 0)) rfl (fun _ => rfl) rfl ?_
      refine ex_ret (r := (some (.inl z31), t1, n, 0)) rfl (fun _ => rfl) ?_
      exact ⟨_, rfl, _, t1, rfl, g1, e1, N, hN, by
        rw [← ef, ← eg]
        exact (by
        rcases hsc with ⟨c1, c2, c3⟩ | ⟨c0, c1, c2, c3⟩ | ⟨c0, c1, c2, c3⟩
        · omega
        · rw [c3, ng_p (by first | decide | omega) (by first | decide | omega)]; omega
        · omega)⟩
theorem sc_sharex191 (n : Nat) {t0 : en_H} {w : Nat → Nat → Nat} {L : List Nat} (g0 : ai_HG ah_G t0) (hC : CW t0 191 w L) (hw : WS w) (k10 : ai_hv t0 0 10 = some (gx_r 191)) (hn : ¬ w 0 4 = 2) : ∃ fuel ls, en_run en_df none (en_u 60) (en_code 89) (fun pc => Nat.beq pc 14) fuel 0 [(0, gx_r 0)] [] t0 n 0 = some (.inr (14, ls, [], t0, n, 0)) := by
  have hK := hw.1.2.2.2.2.1
  have h : en_ex none (en_u 60) (en_code 89) (fun pc => Nat.beq pc 14) (0, [(0, gx_r 0)], [], t0, n, 0) (fun o => ∃ ls, o = .inr (14, ls, [], t0, n, 0)) := by
    refine ex_go (S := (1, [(0, gx_r 0)], [gx_r 0], t0, n, 0)) rfl (fun _ => rfl) rfl ?_
    refine gxo_get (a := 0) rfl g0 rfl rfl k10 rfl ?_
    refine gxo_ref (a := 191) (c := 206) rfl g0 rfl rfl rfl rfl rfl ?_
    refine gxo_get (a := 206) rfl g0 rfl rfl hC.1.2.2.2.2.2 rfl ?_
    refine ex_go (S := (11, [(0, gx_r 0)], [.inl 2, .inl (w 0 4)], t0, n, 0)) rfl (fun _ => rfl) rfl ?_
    refine gx_2fs (c := .eq) rfl (by first | decide | omega) (by first | decide | omega) (show ¬ (w 0 4 = 2) from hn) rfl ⟨_, rfl⟩
  obtain ⟨fuel, o, h1, ls, rfl⟩ := h
  exact ⟨fuel, ls, h1⟩
theorem sc_boa257 (d n : Nat) {t0 : en_H} {b0 b1 : Nat} (g0 : ai_HG ah_G t0) (kK : ai_hv t0 272 5 = some (.inl 2)) (k0 : ai_hv t0 10 0 = some (.inl b0)) (k1 : ai_hv t0 10 1 = some (.inl b1)) (h0 : b0 ≤ 19998) (h1 : b1 ≤ 19998) : ∃ r, en_u (d + 1) 125 [gx_r 8, gx_r 257] t0 n = some r ∧ r = (some (.inl (b0 + b1)), t0, n, 0) := by
  refine en_u_ex rfl ?_
  show en_ex _ _ _ _ (0, [(0, gx_r 8), (1, gx_r 257)], [], t0, n, 0) _
  refine ex_go (S := (1, [(0, gx_r 8), (1, gx_r 257)], [.inl 0], t0, n, 0)) rfl (fun _ => rfl) rfl ?_
  refine ex_go (S := (2, [(2, .inl 0), (0, gx_r 8), (1, gx_r 257)], [], t0, n, 0)) rfl (fun _ => rfl) rfl ?_
  refine ex_go (S := (3, [(2, .inl 0), (0, gx_r 8), (1, gx_r 257)], [.inl 0], t0, n, 0)) rfl (fun _ => rfl) rfl ?_
  refine ex_go (S := (4, [(3, .inl 0), (2, .inl 0), (0, gx_r 8), (1, gx_r 257)], [], t0, n, 0)) rfl (fun _ => rfl) rfl ?_
  refine ex_go (S := (5, [(3, .inl 0), (2, .inl 0), (0, gx_r 8), (1, gx_r 257)], [.inl 0], t0, n, 0)) rfl (fun _ => rfl) rfl ?_
  refine ex_go (S := (6, [(3, .inl 0), (2, .inl 0), (0, gx_r 8), (1, gx_r 257)], [gx_r 257, .inl 0], t0, n, 0)) rfl (fun _ => rfl) rfl ?_
  refine gxo_ref (a := 257) (c := 272) rfl g0 rfl rfl rfl rfl rfl ?_
  refine gxo_get (a := 272) rfl g0 rfl rfl kK rfl ?_
  refine ex_go (S := (15, [(3, .inl 0), (2, .inl 0), (0, gx_r 8), (1, gx_r 257)], [], t0, n, 0)) rfl (fun _ => rfl) rfl ?_
  refine ex_go (S := (16, [(3, .inl 0), (2, .inl 0), (0, gx_r 8), (1, gx_r 257)], [.inl 0], t0, n, 0)) rfl (fun _ => rfl) rfl ?_
  refine ex_go (S := (17, [(3, .inl 0), (2, .inl 0), (0, gx_r 8), (1, gx_r 257)], [gx_r 8, .inl 0], t0, n, 0)) rfl (fun _ => rfl) rfl ?_
  refine gxo_ref (a := 8) (c := 10) rfl g0 rfl rfl rfl rfl rfl ?_
  refine ex_go (S := (21, [(3, .inl 0), (2, .inl 0), (0, gx_r 8), (1, gx_r 257)], [.inl 0, gx_r 10, .inl 0], t0, n, 0)) rfl (fun _ => rfl) rfl ?_
  refine gx_ag (v := .inl b0) (cb := fun c => Nat.beq c 0) rfl (fun _ => rfl) g0 rfl rfl k0 (by first | decide | omega) rfl ?_
  refine ex_iadd rfl (by first | decide | omega) rfl ?_
  refine ex_go (S := (24, [(2, .inl (0 + b0)), (3, .inl 0), (0, gx_r 8), (1, gx_r 257)], [], t0, n, 0)) rfl (fun _ => rfl) rfl ?_
  refine ex_go (S := (27, [(3, .inl 1), (2, .inl (0 + b0)), (0, gx_r 8), (1, gx_r 257)], [], t0, n, 0)) rfl (fun _ => rfl) rfl ?_
  refine ex_go (S := (4, [(3, .inl 1), (2, .inl (0 + b0)), (0, gx_r 8), (1, gx_r 257)], [], t0, n, 0)) rfl (fun _ => rfl) rfl ?_
  refine ex_go (S := (5, [(3, .inl 1), (2, .inl (0 + b0)), (0, gx_r 8), (1, gx_r 257)], [.inl 1], t0, n, 0)) rfl (fun _ => rfl) rfl ?_
  refine ex_go (S := (6, [(3, .inl 1), (2, .inl (0 + b0)), (0, gx_r 8), (1, gx_r 257)], [gx_r 257, .inl 1], t0, n, 0)) rfl (fun _ => rfl) rfl ?_
  refine gxo_ref (a := 257) (c := 272) rfl g0 rfl rfl rfl rfl rfl ?_
  refine gxo_get (a := 272) rfl g0 rfl rfl kK rfl ?_
  refine ex_go (S := (15, [(3, .inl 1), (2, .inl (0 + b0)), (0, gx_r 8), (1, gx_r 257)], [], t0, n, 0)) rfl (fun _ => rfl) rfl ?_
  refine ex_go (S := (16, [(3, .inl 1), (2, .inl (0 + b0)), (0, gx_r 8), (1, gx_r 257)], [.inl (0 + b0)], t0, n, 0)) rfl (fun _ => rfl) rfl ?_
  refine ex_go (S := (17, [(3, .inl 1), (2, .inl (0 + b0)), (0, gx_r 8), (1, gx_r 257)], [gx_r 8, .inl (0 + b0)], t0, n, 0)) rfl (fun _ => rfl) rfl ?_
  refine gxo_ref (a := 8) (c := 10) rfl g0 rfl rfl rfl rfl rfl ?_
  refine ex_go (S := (21, [(3, .inl 1), (2, .inl (0 + b0)), (0, gx_r 8), (1, gx_r 257)], [.inl 1, gx_r 10, .inl (0 + b0)], t0, n, 0)) rfl (fun _ => rfl) rfl ?_
  refine gx_ag (v := .inl b1) (cb := fun c => Nat.beq c 0) rfl (fun _ => rfl) g0 rfl rfl k1 (by first | decide | omega) rfl ?_
  refine ex_iadd rfl (by first | decide | omega) rfl ?_
  refine ex_go (S := (24, [(2, .inl ((0 + b0) + b1)), (3, .inl 1), (0, gx_r 8), (1, gx_r 257)], [], t0, n, 0)) rfl (fun _ => rfl) rfl ?_
  refine ex_go (S := (27, [(3, .inl 2), (2, .inl ((0 + b0) + b1)), (0, gx_r 8), (1, gx_r 257)], [], t0, n, 0)) rfl (fun _ => rfl) rfl ?_
  refine ex_go (S := (4, [(3, .inl 2), (2, .inl ((0 + b0) + b1)), (0, gx_r 8), (1, gx_r 257)], [], t0, n, 0)) rfl (fun _ => rfl) rfl ?_
  refine ex_go (S := (5, [(3, .inl 2), (2, .inl ((0 + b0) + b1)), (0, gx_r 8), (1, gx_r 257)], [.inl 2], t0, n, 0)) rfl (fun _ => rfl) rfl ?_
  refine ex_go (S := (6, [(3, .inl 2), (2, .inl ((0 + b0) + b1)), (0, gx_r 8), (1, gx_r 257)], [gx_r 257, .inl 2], t0, n, 0)) rfl (fun _ => rfl) rfl ?_
  refine gxo_ref (a := 257) (c := 272) rfl g0 rfl rfl rfl rfl rfl ?_
  refine gxo_get (a := 272) rfl g0 rfl rfl kK rfl ?_
  refine ex_go (S := (30, [(3, .inl 2), (2, .inl ((0 + b0) + b1)), (0, gx_r 8), (1, gx_r 257)], [], t0, n, 0)) rfl (fun _ => rfl) rfl ?_
  refine ex_go (S := (31, [(3, .inl 2), (2, .inl ((0 + b0) + b1)), (0, gx_r 8), (1, gx_r 257)], [.inl ((0 + b0) + b1)], t0, n, 0)) rfl (fun _ => rfl) rfl ?_
  refine ex_ret (r := (some (.inl ((0 + b0) + b1)), t0, n, 0)) rfl (fun _ => rfl) ?_
  exact ⟨_, rfl, by rw [Nat.zero_add]⟩
theorem sc_sh257_l (d n : Nat) {tb : en_H} {w : Nat → Nat → Nat} {L : List Nat} {σ : Nat → Nat} {T : Nat} {Q : en_O → Prop} (hC : CW tb 257 w L) (hw : WS w) (hS : SC tb 8 (w 0 2) (w 0 4) σ) (k10 : ai_hv tb 0 10 = some (gx_r 257)) (hB : σ 0 ≤ 900000) (hK2 : w 0 4 = 2) (ho : ∀ c, c < w 0 4 → σ (11 + c) ≤ 1 ∧ σ (7 + c) ≤ 19998) (hT : T ≤ 40000) (hQ : ∀ cl t1 N, Nsp (psm (eatk w L σ 0)) (psm (eatk w L σ 1)) T N → ai_HG ah_G t1 → (∀ c i, c ≠ 297 → ai_hv t1 c i = ai_hv tb c i) → en_ld cl 0 = some (gx_r 0) → en_ld cl 2 = some (.inl (psm (eatk w L σ 0) N)) → en_ld cl 3 = some (.inl (psm (eatk w L σ 1) N)) → en_ex none (en_u (d + 4)) (en_code 89) (fun _ => false) (127, cl, [], t1, n, 0) Q) : ∀ j k cl t0, k + j = 200 → psm (eatk w L σ 0) k + psm (eatk w L σ 1) k ≤ T → ai_HG ah_G t0 → (∀ c i, c ≠ 297 → ai_hv t0 c i = ai_hv tb c i) → en_ld cl 0 = some (gx_r 0) → en_ld cl 1 = some (.inl T) → en_ld cl 2 = some (.inl (psm (eatk w L σ 0) k)) → en_ld cl 3 = some (.inl (psm (eatk w L σ 1) k)) → en_ld cl 4 = some (.inl k) → en_ex none (en_u (d + 4)) (en_code 89) (fun _ => false) (43, cl, [], t0, n, 0) Q := by
  intro j
  induction j with
  | zero =>
    intro k cl t0 hj hT9 g0 e0 l0 l1 l2 l3 l4
    refine gx_ld (i := 4) (d := 0) (v := .inl k) rfl (fun _ => rfl) l4 rfl rfl ?_
    refine ex_go (S := (48, cl, [.inl 200, .inl k], t0, n, 0)) rfl (fun _ => rfl) rfl ?_
    refine gx_2t (c := .ge) rfl (by first | decide | omega) (by first | decide | omega) (show 200 ≤ k from by omega) rfl ?_
    exact hQ _ _ k ⟨by omega, hT9, Or.inl (by first | decide | omega)⟩ g0 e0 l0 l2 l3
  | succ j ih =>
    intro k cl t0 hj hT9 g0 e0 l0 l1 l2 l3 l4
    have hp0 := psm_le (e := eatk w L σ 0) (fun _ => eatk_le) k
    have hp1 := psm_le (e := eatk w L σ 1) (fun _ => eatk_le) k
    have hq0 := eatk_le (w := w) (L := L) (σ := σ) (c := 0) (k := k)
    have hq1 := eatk_le (w := w) (L := L) (σ := σ) (c := 1) (k := k)
    have hm0 := (hw.2.1 0 (by first | decide | omega)).2.1
    have hm1 := (hw.2.1 1 (by first | decide | omega)).2.1
    have km0 := (hC.2.2.1 0 (by first | decide | omega)).2.1
    have km1 := (hC.2.2.1 1 (by first | decide | omega)).2.1
    have ko0 := (hS.2.2 0 (by first | decide | omega)).2.2.1
    have ko1 := (hS.2.2 1 (by first | decide | omega)).2.2.1
    have ho0 := (ho 0 (by first | decide | omega)).1
    have ho1 := (ho 1 (by first | decide | omega)).1
    have kL := hC.2.2.2.2.2.1
    have hs := hC.2.2.2.2.2.2.1
    have hv9 := hC.2.2.2.2.2.2.2.1
    have hr9 := hC.2.2.2.2.2.2.2.2
    refine gx_ld (i := 4) (d := 0) (v := .inl k) rfl (fun _ => rfl) l4 rfl rfl ?_
    refine ex_go (S := (48, cl, [.inl 200, .inl k], t0, n, 0)) rfl (fun _ => rfl) rfl ?_
    refine gx_2f (c := .ge) rfl (by first | decide | omega) (by first | decide | omega) (show ¬ (200 ≤ k) from by omega) rfl ?_
    refine gx_ld (i := 2) (d := 0) (v := .inl (psm (eatk w L σ 0) k)) rfl (fun _ => rfl) l2 rfl rfl ?_
    refine gx_ld (i := 0) (d := 2) (v := gx_r 0) rfl (fun _ => rfl) l0 rfl rfl ?_
    refine gxo_ref (a := 0) (c := 8) rfl g0 rfl rfl rfl rfl rfl ?_
    refine gx_ld (i := 0) (d := 2) (v := gx_r 0) rfl (fun _ => rfl) l0 rfl rfl ?_
    refine gxo_get (a := 0) rfl g0 rfl rfl ((e0 0 10 (by first | decide | omega)).trans k10) rfl ?_
    refine ex_go (S := (61, cl, [.inl 0, gx_r 257, gx_r 8, .inl (psm (eatk w L σ 0) k)], t0, n, 0)) rfl (fun _ => rfl) rfl ?_
    refine gx_ld (i := 0) (d := 2) (v := gx_r 0) rfl (fun _ => rfl) l0 rfl rfl ?_
    refine gxo_ref (a := 0) (c := 8) rfl g0 rfl rfl rfl rfl rfl ?_
    refine gxo_get (a := 8) rfl g0 rfl rfl ((e0 8 0 (by first | decide | omega)).trans hS.1) rfl ?_
    refine gx_ld (i := 4) (d := 0) (v := .inl k) rfl (fun _ => rfl) l4 rfl rfl ?_
    refine ex_iadd rfl (by first | decide | omega) rfl ?_
    obtain ⟨_, r121, t121, rfl, g121, e121⟩ := sc_app8_257 (d + 1) n (L := L) (c := 0) (me := w 2 0) (ti := σ 0 + k) (ou := σ (11 + 0)) g0 (by first | decide | omega) ((e0 275 0 (by first | decide | omega)).trans km0) (by first | decide | omega) ((e0 12 0 (by first | decide | omega)).trans ko0) (by first | decide | omega) (by first | decide | omega) (CLs_keep kL (e0 296 2 (by first | decide | omega)) (fun j => e0 298 j (by first | decide | omega))) hs hv9 hr9
    refine gx_callo (a := 8) rfl rfl g0 rfl rfl rfl r121 rfl ?_
    have k22 : ai_hv t121 0 10 = some (gx_r 257) := (e121 0 10 (by first | decide | omega)).trans ((e0 0 10 (by first | decide | omega)).trans k10)
    have k23 : ai_hv t121 8 0 = some (.inl (σ 0)) := (e121 8 0 (by first | decide | omega)).trans ((e0 8 0 (by first | decide | omega)).trans hS.1)
    show en_ex _ _ _ _ (74, cl, [.inl (eatk w L σ 0 k), .inl (psm (eatk w L σ 0) k)], t121, n, 0) _
    refine ex_iadd rfl (by first | decide | omega) rfl ?_
    refine gx_sto (i := 5) (d := 0) rfl (fun _ => rfl) rfl rfl (fun l24 hl24 ml24 => ?_)
    have l24_0 : en_ld l24 0 = some (gx_r 0) := ml24 0 _ l0 rfl
    have l24_1 : en_ld l24 1 = some (.inl T) := ml24 1 _ l1 rfl
    have l24_2 : en_ld l24 2 = some (.inl (psm (eatk w L σ 0) k)) := ml24 2 _ l2 rfl
    have l24_3 : en_ld l24 3 = some (.inl (psm (eatk w L σ 1) k)) := ml24 3 _ l3 rfl
    have l24_4 : en_ld l24 4 = some (.inl k) := ml24 4 _ l4 rfl
    refine gx_ld (i := 3) (d := 0) (v := .inl (psm (eatk w L σ 1) k)) rfl (fun _ => rfl) l24_3 rfl rfl ?_
    refine gx_ld (i := 0) (d := 2) (v := gx_r 0) rfl (fun _ => rfl) l24_0 rfl rfl ?_
    refine gxo_ref (a := 0) (c := 8) rfl g121 rfl rfl rfl rfl rfl ?_
    refine gx_ld (i := 0) (d := 2) (v := gx_r 0) rfl (fun _ => rfl) l24_0 rfl rfl ?_
    refine gxo_get (a := 0) rfl g121 rfl rfl k22 rfl ?_
    refine ex_go (S := (87, l24, [.inl 1, gx_r 257, gx_r 8, .inl (psm (eatk w L σ 1) k)], t121, n, 0)) rfl (fun _ => rfl) rfl ?_
    refine gx_ld (i := 0) (d := 2) (v := gx_r 0) rfl (fun _ => rfl) l24_0 rfl rfl ?_
    refine gxo_ref (a := 0) (c := 8) rfl g121 rfl rfl rfl rfl rfl ?_
    refine gxo_get (a := 8) rfl g121 rfl rfl k23 rfl ?_
    refine gx_ld (i := 4) (d := 0) (v := .inl k) rfl (fun _ => rfl) l24_4 rfl rfl ?_
    refine ex_iadd rfl (by first | decide | omega) rfl ?_
    obtain ⟨_, r125, t125, rfl, g125, e125⟩ := sc_app8_257 (d + 1) n (L := L) (c := 1) (me := w 2 1) (ti := σ 0 + k) (ou := σ (11 + 1)) g121 (by first | decide | omega) (((e121 275 1 (by first | decide | omega)).trans (e0 275 1 (by first | decide | omega))).trans km1) (by first | decide | omega) (((e121 12 1 (by first | decide | omega)).trans (e0 12 1 (by first | decide | omega))).trans ko1) (by first | decide | omega) (by first | decide | omega) (CLs_keep kL ((e121 296 2 (by first | decide | omega)).trans (e0 296 2 (by first | decide | omega))) (fun j => (e121 298 j (by first | decide | omega)).trans (e0 298 j (by first | decide | omega)))) hs hv9 hr9
    refine gx_callo (a := 8) rfl rfl g121 rfl rfl rfl r125 rfl ?_
    have k26 : ai_hv t125 0 10 = some (gx_r 257) := (e125 0 10 (by first | decide | omega)).trans k22
    have k27 : ai_hv t125 8 0 = some (.inl (σ 0)) := (e125 8 0 (by first | decide | omega)).trans k23
    show en_ex _ _ _ _ (100, l24, [.inl (eatk w L σ 1 k), .inl (psm (eatk w L σ 1) k)], t125, n, 0) _
    refine ex_iadd rfl (by first | decide | omega) rfl ?_
    refine gx_sto (i := 6) (d := 0) rfl (fun _ => rfl) rfl rfl (fun l28 hl28 ml28 => ?_)
    have l28_0 : en_ld l28 0 = some (gx_r 0) := ml28 0 _ l24_0 rfl
    have l28_1 : en_ld l28 1 = some (.inl T) := ml28 1 _ l24_1 rfl
    have l28_2 : en_ld l28 2 = some (.inl (psm (eatk w L σ 0) k)) := ml28 2 _ l24_2 rfl
    have l28_3 : en_ld l28 3 = some (.inl (psm (eatk w L σ 1) k)) := ml28 3 _ l24_3 rfl
    have l28_4 : en_ld l28 4 = some (.inl k) := ml28 4 _ l24_4 rfl
    have l28_5 : en_ld l28 5 = some (.inl ((psm (eatk w L σ 0) k) + (eatk w L σ 0 k))) := ml28 5 _ hl24 rfl
    refine gx_ld (i := 5) (d := 0) (v := .inl ((psm (eatk w L σ 0) k) + (eatk w L σ 0 k))) rfl (fun _ => rfl) l28_5 rfl rfl ?_
    refine gx_ld (i := 6) (d := 0) (v := .inl ((psm (eatk w L σ 1) k) + (eatk w L σ 1 k))) rfl (fun _ => rfl) hl28 rfl rfl ?_
    refine ex_iadd rfl (by first | decide | omega) rfl ?_
    refine gx_ld (i := 1) (d := 0) (v := .inl T) rfl (fun _ => rfl) l28_1 rfl rfl ?_
    by_cases hc29 : ((psm (eatk w L σ 0) k) + (eatk w L σ 0 k)) + ((psm (eatk w L σ 1) k) + (eatk w L σ 1 k)) ≤ T
    · refine gx_2t (c := .le) rfl (by first | decide | omega) (by first | decide | omega) hc29 rfl ?_
      refine gx_ld (i := 5) (d := 0) (v := .inl ((psm (eatk w L σ 0) k) + (eatk w L σ 0 k))) rfl (fun _ => rfl) l28_5 rfl rfl ?_
      refine gx_sto (i := 2) (d := 0) rfl (fun _ => rfl) rfl rfl (fun l30 hl30 ml30 => ?_)
      have l30_0 : en_ld l30 0 = some (gx_r 0) := ml30 0 _ l28_0 rfl
      have l30_1 : en_ld l30 1 = some (.inl T) := ml30 1 _ l28_1 rfl
      have l30_3 : en_ld l30 3 = some (.inl (psm (eatk w L σ 1) k)) := ml30 3 _ l28_3 rfl
      have l30_4 : en_ld l30 4 = some (.inl k) := ml30 4 _ l28_4 rfl
      have l30_5 : en_ld l30 5 = some (.inl ((psm (eatk w L σ 0) k) + (eatk w L σ 0 k))) := ml30 5 _ l28_5 rfl
      have l30_6 : en_ld l30 6 = some (.inl ((psm (eatk w L σ 1) k) + (eatk w L σ 1 k))) := ml30 6 _ hl28 rfl
      refine gx_ld (i := 6) (d := 0) (v := .inl ((psm (eatk w L σ 1) k) + (eatk w L σ 1 k))) rfl (fun _ => rfl) l30_6 rfl rfl ?_
      refine gx_sto (i := 3) (d := 0) rfl (fun _ => rfl) rfl rfl (fun l31 hl31 ml31 => ?_)
      have l31_0 : en_ld l31 0 = some (gx_r 0) := ml31 0 _ l30_0 rfl
      have l31_1 : en_ld l31 1 = some (.inl T) := ml31 1 _ l30_1 rfl
      have l31_4 : en_ld l31 4 = some (.inl k) := ml31 4 _ l30_4 rfl
      have l31_5 : en_ld l31 5 = some (.inl ((psm (eatk w L σ 0) k) + (eatk w L σ 0 k))) := ml31 5 _ l30_5 rfl
      have l31_6 : en_ld l31 6 = some (.inl ((psm (eatk w L σ 1) k) + (eatk w L σ 1 k))) := ml31 6 _ l30_6 rfl
      have l31_2 : en_ld l31 2 = some (.inl ((psm (eatk w L σ 0) k) + (eatk w L σ 0 k))) := ml31 2 _ hl30 rfl
      refine gx_incS (i := 4) (a := k) (x := 1) rfl (fun _ => rfl) l31_4 (by first | decide | omega) rfl (fun l32 hl32 ml32 => ?_)
      have l32_0 : en_ld l32 0 = some (gx_r 0) := ml32 0 _ l31_0 rfl
      have l32_1 : en_ld l32 1 = some (.inl T) := ml32 1 _ l31_1 rfl
      have l32_5 : en_ld l32 5 = some (.inl ((psm (eatk w L σ 0) k) + (eatk w L σ 0 k))) := ml32 5 _ l31_5 rfl
      have l32_6 : en_ld l32 6 = some (.inl ((psm (eatk w L σ 1) k) + (eatk w L σ 1 k))) := ml32 6 _ l31_6 rfl
      have l32_2 : en_ld l32 2 = some (.inl ((psm (eatk w L σ 0) k) + (eatk w L σ 0 k))) := ml32 2 _ l31_2 rfl
      have l32_3 : en_ld l32 3 = some (.inl ((psm (eatk w L σ 1) k) + (eatk w L σ 1 k))) := ml32 3 _ hl31 rfl
      refine ex_go (S := (43, l32, [], t125, n, 0)) rfl (fun _ => rfl) rfl ?_
      exact ih (k + 1) _ _ (by first | decide | omega) (show (psm (eatk w L σ 0) k + eatk w L σ 0 k) + (psm (eatk w L σ 1) k + eatk w L σ 1 k) ≤ T from by omega) g125 (fun c i h => (e125 c i h).trans ((e121 c i h).trans (e0 c i h))) l32_0 l32_1 l32_2 l32_3 hl32
    · refine gx_2f (c := .le) rfl (by first | decide | omega) (by first | decide | omega) hc29 rfl ?_
      refine ex_go (S := (127, l28, [], t125, n, 0)) rfl (fun _ => rfl) rfl ?_
      exact hQ _ _ k ⟨by omega, hT9, Or.inr (by
        show T < (psm (eatk w L σ 0) k + eatk w L σ 0 k) + (psm (eatk w L σ 1) k + eatk w L σ 1 k)
        omega)⟩ g125 (fun c i h => (e125 c i h).trans ((e121 c i h).trans (e0 c i h))) l28_0 l28_2 l28_3
theorem sc_share257 (d n : Nat) {t0 : en_H} {w : Nat → Nat → Nat} {L : List Nat} {σ : Nat → Nat} (g0 : ai_HG ah_G t0) (hC : CW t0 257 w L) (hw : WS w) (hS : SC t0 8 (w 0 2) (w 0 4) σ) (k10 : ai_hv t0 0 10 = some (gx_r 257)) (hB : σ 0 ≤ 900000) (ho : ∀ c, c < w 0 4 → σ (11 + c) ≤ 1 ∧ σ (7 + c) ≤ 19998) (hK2 : w 0 4 = 2) : ∃ r, en_u (d + 5) 89 [gx_r 0] t0 n = some r ∧ ∃ v t', r = (some (.inl v), t', n, 0) ∧ ai_HG ah_G t' ∧ (∀ c i, c ≠ 297 → ai_hv t' c i = ai_hv t0 c i) ∧ ∃ N, Nsp (psm (eatk w L σ 0)) (psm (eatk w L σ 1)) (σ 7 + σ 8) N ∧ v = shA (σ 7) (σ 8) (psm (eatk w L σ 0) N) (psm (eatk w L σ 1) N) := by
  have hh7 : σ 7 ≤ 19998 := (ho 0 (by first | decide | omega)).2
  have hh8 : σ 8 ≤ 19998 := (ho 1 (by first | decide | omega)).2
  have kb0 : ai_hv t0 10 0 = some (.inl (σ 7)) := (hS.2.2 0 (by first | decide | omega)).1
  have kb1 : ai_hv t0 10 1 = some (.inl (σ 8)) := (hS.2.2 1 (by first | decide | omega)).1
  have kK : ai_hv t0 272 5 = some (.inl 2) := by rw [← hK2]; exact hC.1.2.2.2.2.2
  refine en_u_ex (d := d + 4) rfl ?_
  show en_ex _ _ _ _ (0, [(0, gx_r 0)], [], t0, n, 0) _
  refine ex_go (S := (1, [(0, gx_r 0)], [gx_r 0], t0, n, 0)) rfl (fun _ => rfl) rfl ?_
  refine gxo_get (a := 0) rfl g0 rfl rfl k10 rfl ?_
  refine gxo_ref (a := 257) (c := 272) rfl g0 rfl rfl rfl rfl rfl ?_
  refine gxo_get (a := 272) rfl g0 rfl rfl kK rfl ?_
  refine ex_go (S := (11, [(0, gx_r 0)], [.inl 2, .inl 2], t0, n, 0)) rfl (fun _ => rfl) rfl ?_
  refine ex_go (S := (24, [(0, gx_r 0)], [], t0, n, 0)) rfl (fun _ => rfl) rfl ?_
  refine ex_go (S := (25, [(0, gx_r 0)], [gx_r 0], t0, n, 0)) rfl (fun _ => rfl) rfl ?_
  refine gxo_ref (a := 0) (c := 8) rfl g0 rfl rfl rfl rfl rfl ?_
  refine ex_go (S := (29, [(0, gx_r 0)], [gx_r 0, gx_r 8], t0, n, 0)) rfl (fun _ => rfl) rfl ?_
  refine gxo_get (a := 0) rfl g0 rfl rfl k10 rfl ?_
  obtain ⟨_, r21, rfl⟩ := sc_boa257 (d + 3) n g0 kK kb0 kb1 hh7 hh8
  refine gx_callo (a := 8) rfl rfl g0 rfl rfl rfl r21 rfl ?_
  show en_ex _ _ _ _ (35, [(0, gx_r 0)], [.inl (σ 7 + σ 8)], t0, n, 0) _
  refine ex_go (S := (36, [(1, .inl (σ 7 + σ 8)), (0, gx_r 0)], [], t0, n, 0)) rfl (fun _ => rfl) rfl ?_
  refine ex_go (S := (37, [(1, .inl (σ 7 + σ 8)), (0, gx_r 0)], [.inl 0], t0, n, 0)) rfl (fun _ => rfl) rfl ?_
  refine ex_go (S := (38, [(2, .inl 0), (1, .inl (σ 7 + σ 8)), (0, gx_r 0)], [], t0, n, 0)) rfl (fun _ => rfl) rfl ?_
  refine ex_go (S := (39, [(2, .inl 0), (1, .inl (σ 7 + σ 8)), (0, gx_r 0)], [.inl 0], t0, n, 0)) rfl (fun _ => rfl) rfl ?_
  refine ex_go (S := (40, [(3, .inl 0), (2, .inl 0), (1, .inl (σ 7 + σ 8)), (0, gx_r 0)], [], t0, n, 0)) rfl (fun _ => rfl) rfl ?_
  refine ex_go (S := (41, [(3, .inl 0), (2, .inl 0), (1, .inl (σ 7 + σ 8)), (0, gx_r 0)], [.inl 0], t0, n, 0)) rfl (fun _ => rfl) rfl ?_
  refine ex_go (S := (43, [(4, .inl 0), (3, .inl 0), (2, .inl 0), (1, .inl (σ 7 + σ 8)), (0, gx_r 0)], [], t0, n, 0)) rfl (fun _ => rfl) rfl ?_
  refine sc_sh257_l d n (tb := t0) (T := σ 7 + σ 8) hC hw hS k10 hB hK2 ho (by first | decide | omega) (fun cl t1 N hN g1 e1 m0 m2 m3 => ?_) 200 0 _ t0 (by first | decide | omega) (Nat.zero_le _) g0 (fun _ _ _ => rfl) rfl rfl rfl rfl rfl
  have hp0 := psm_le (e := eatk w L σ 0) (fun _ => eatk_le) N
  have hp1 := psm_le (e := eatk w L σ 1) (fun _ => eatk_le) N
  have hN1 := hN.1
  have hN2 := hN.2.1
  obtain ⟨f, ef⟩ : ∃ f, f = psm (eatk w L σ 0) N := ⟨_, rfl⟩
  obtain ⟨g, eg⟩ : ∃ g, g = psm (eatk w L σ 1) N := ⟨_, rfl⟩
  rw [← ef] at m2 hp0 hN2
  rw [← eg] at m3 hp1 hN2
  have hsc := sh_cs hN2
  refine gx_ld (i := 3) (d := 0) (v := .inl g) rfl (fun _ => rfl) m3 rfl rfl ?_
  refine gx_ld (i := 0) (d := 2) (v := gx_r 0) rfl (fun _ => rfl) m0 rfl rfl ?_
  refine gxo_ref (a := 0) (c := 8) rfl g1 rfl rfl rfl rfl rfl ?_
  refine gxo_ref (a := 8) (c := 10) rfl g1 rfl rfl rfl rfl rfl ?_
  refine ex_go (S := (136, cl, [.inl 1, gx_r 10, .inl g], t1, n, 0)) rfl (fun _ => rfl) rfl ?_
  refine gx_ag (v := .inl (σ 8)) (cb := fun c => Nat.beq c 0) rfl (fun _ => rfl) g1 rfl rfl ((e1 10 1 (by first | decide | omega)).trans kb1) (by first | decide | omega) rfl ?_
  by_cases hsb137 : σ 8 ≤ g
  · refine gx_isub rfl (by first | decide | omega) (by first | decide | omega) rfl ?_
    refine gx_sto (i := 4) (d := 0) rfl (fun _ => rfl) rfl rfl (fun l22 hl22 ml22 => ?_)
    have l22_0 : en_ld l22 0 = some (gx_r 0) := ml22 0 _ m0 rfl
    have l22_2 : en_ld l22 2 = some (.inl f) := ml22 2 _ m2 rfl
    have l22_3 : en_ld l22 3 = some (.inl g) := ml22 3 _ m3 rfl
    refine gx_ld (i := 0) (d := 2) (v := gx_r 0) rfl (fun _ => rfl) l22_0 rfl rfl ?_
    refine gxo_ref (a := 0) (c := 8) rfl g1 rfl rfl rfl rfl rfl ?_
    refine gxo_ref (a := 8) (c := 10) rfl g1 rfl rfl rfl rfl rfl ?_
    refine ex_go (S := (148, l22, [.inl 0, gx_r 10], t1, n, 0)) rfl (fun _ => rfl) rfl ?_
    refine gx_ag (v := .inl (σ 7)) (cb := fun c => Nat.beq c 0) rfl (fun _ => rfl) g1 rfl rfl ((e1 10 0 (by first | decide | omega)).trans kb0) (by first | decide | omega) rfl ?_
    refine gx_ld (i := 2) (d := 0) (v := .inl f) rfl (fun _ => rfl) l22_2 rfl rfl ?_
    by_cases hsb150 : f ≤ σ 7
    · refine gx_isub rfl (by first | decide | omega) (by first | decide | omega) rfl ?_
      refine gx_sto (i := 5) (d := 0) rfl (fun _ => rfl) rfl rfl (fun l23 hl23 ml23 => ?_)
      have l23_0 : en_ld l23 0 = some (gx_r 0) := ml23 0 _ l22_0 rfl
      have l23_2 : en_ld l23 2 = some (.inl f) := ml23 2 _ l22_2 rfl
      have l23_3 : en_ld l23 3 = some (.inl g) := ml23 3 _ l22_3 rfl
      have l23_4 : en_ld l23 4 = some (.inl (g - (σ 8))) := ml23 4 _ hl22 rfl
      refine gx_ld (i := 4) (d := 0) (v := .inl (g - (σ 8))) rfl (fun _ => rfl) l23_4 rfl rfl ?_
      by_cases hc24 : g - (σ 8) ≤ 0
      · refine gx_1t (c := .le) rfl (by first | decide | omega) hc24 rfl ?_
        refine gx_ld (i := 5) (d := 0) (v := .inl ((σ 7) - f)) rfl (fun _ => rfl) hl23 rfl rfl ?_
        refine gx_1t (c := .ge) rfl (by first | decide | omega) (show 0 ≤ (σ 7) - f from by omega) rfl ?_
        refine ex_go (S := (172, l23, [.inl 0], t1, n, 0)) rfl (fun _ => rfl) rfl ?_
        refine ex_ret (r := (some (.inl 0), t1, n, 0)) rfl (fun _ => rfl) ?_
        exact ⟨_, rfl, _, t1, rfl, g1, e1, N, hN, by
          rw [← ef, ← eg]
          exact (by rcases hsc with ⟨c1, c2, c3⟩ | ⟨c0, c1, c2, c3⟩ | ⟨c0, c1, c2, c3⟩ <;> omega)⟩
      · refine gx_1f (c := .le) rfl (by first | decide | omega) hc24 rfl ?_
        refine gx_ld (i := 4) (d := 0) (v := .inl (g - (σ 8))) rfl (fun _ => rfl) l23_4 rfl rfl ?_
        refine ex_ret (r := (some (.inl (g - (σ 8))), t1, n, 0)) rfl (fun _ => rfl) ?_
        exact ⟨_, rfl, _, t1, rfl, g1, e1, N, hN, by
          rw [← ef, ← eg]
          exact (by rcases hsc with ⟨c1, c2, c3⟩ | ⟨c0, c1, c2, c3⟩ | ⟨c0, c1, c2, c3⟩ <;> omega)⟩
    · refine gx_isubn rfl (by first | decide | omega) (by first | decide | omega) rfl (fun z25 z25a z25b z25c => ?_)
      refine gx_sto (i := 5) (d := 0) rfl (fun _ => rfl) rfl rfl (fun l26 hl26 ml26 => ?_)
      have l26_0 : en_ld l26 0 = some (gx_r 0) := ml26 0 _ l22_0 rfl
      have l26_2 : en_ld l26 2 = some (.inl f) := ml26 2 _ l22_2 rfl
      have l26_3 : en_ld l26 3 = some (.inl g) := ml26 3 _ l22_3 rfl
      have l26_4 : en_ld l26 4 = some (.inl (g - (σ 8))) := ml26 4 _ hl22 rfl
      refine gx_ld (i := 4) (d := 0) (v := .inl (g - (σ 8))) rfl (fun _ => rfl) l26_4 rfl rfl ?_
      by_cases hc27 : g - (σ 8) ≤ 0
      · refine gx_1t (c := .le) rfl (by first | decide | omega) hc27 rfl ?_
        refine gx_ld (i := 5) (d := 0) (v := .inl z25) rfl (fun _ => rfl) hl26 rfl rfl ?_
        refine gx_negf (c := .ge) rfl (by first | decide | omega) (by first | decide | omega) rfl rfl ?_
        refine gx_ld (i := 5) (d := 0) (v := .inl z25) rfl (fun _ => rfl) hl26 rfl rfl ?_
        refine ex_go (S := (172, l26, [.inl z25], t1, n, 0)) rfl (fun _ => rfl) rfl ?_
        refine ex_ret (r := (some (.inl z25), t1, n, 0)) rfl (fun _ => rfl) ?_
        exact ⟨_, rfl, _, t1, rfl, g1, e1, N, hN, by
          rw [← ef, ← eg]
          exact (by
          rcases hsc with ⟨c1, c2, c3⟩ | ⟨c0, c1, c2, c3⟩ | ⟨c0, c1, c2, c3⟩
          · omega
          · rw [c3, ng_p (by first | decide | omega) (by first | decide | omega)]; omega
          · omega)⟩
      · refine gx_1f (c := .le) rfl (by first | decide | omega) hc27 rfl ?_
        refine gx_ld (i := 4) (d := 0) (v := .inl (g - (σ 8))) rfl (fun _ => rfl) l26_4 rfl rfl ?_
        refine ex_ret (r := (some (.inl (g - (σ 8))), t1, n, 0)) rfl (fun _ => rfl) ?_
        exact ⟨_, rfl, _, t1, rfl, g1, e1, N, hN, by
          rw [← ef, ← eg]
          exact (by
          rcases hsc with ⟨c1, c2, c3⟩ | ⟨c0, c1, c2, c3⟩ | ⟨c0, c1, c2, c3⟩
          · omega
          · rw [c3, ng_p (by first | decide | omega) (by first | decide | omega)]; omega
          · omega)⟩
  · refine gx_isubn rfl (by first | decide | omega) (by first | decide | omega) rfl (fun z28 z28a z28b z28c => ?_)
    refine gx_sto (i := 4) (d := 0) rfl (fun _ => rfl) rfl rfl (fun l29 hl29 ml29 => ?_)
    have l29_0 : en_ld l29 0 = some (gx_r 0) := ml29 0 _ m0 rfl
    have l29_2 : en_ld l29 2 = some (.inl f) := ml29 2 _ m2 rfl
    have l29_3 : en_ld l29 3 = some (.inl g) := ml29 3 _ m3 rfl
    refine gx_ld (i := 0) (d := 2) (v := gx_r 0) rfl (fun _ => rfl) l29_0 rfl rfl ?_
    refine gxo_ref (a := 0) (c := 8) rfl g1 rfl rfl rfl rfl rfl ?_
    refine gxo_ref (a := 8) (c := 10) rfl g1 rfl rfl rfl rfl rfl ?_
    refine ex_go (S := (148, l29, [.inl 0, gx_r 10], t1, n, 0)) rfl (fun _ => rfl) rfl ?_
    refine gx_ag (v := .inl (σ 7)) (cb := fun c => Nat.beq c 0) rfl (fun _ => rfl) g1 rfl rfl ((e1 10 0 (by first | decide | omega)).trans kb0) (by first | decide | omega) rfl ?_
    refine gx_ld (i := 2) (d := 0) (v := .inl f) rfl (fun _ => rfl) l29_2 rfl rfl ?_
    by_cases hsb150 : f ≤ σ 7
    · refine gx_isub rfl (by first | decide | omega) (by first | decide | omega) rfl ?_
      refine gx_sto (i := 5) (d := 0) rfl (fun _ => rfl) rfl rfl (fun l30 hl30 ml30 => ?_)
      have l30_0 : en_ld l30 0 = some (gx_r 0) := ml30 0 _ l29_0 rfl
      have l30_2 : en_ld l30 2 = some (.inl f) := ml30 2 _ l29_2 rfl
      have l30_3 : en_ld l30 3 = some (.inl g) := ml30 3 _ l29_3 rfl
      have l30_4 : en_ld l30 4 = some (.inl z28) := ml30 4 _ hl29 rfl
      refine gx_ld (i := 4) (d := 0) (v := .inl z28) rfl (fun _ => rfl) l30_4 rfl rfl ?_
      refine gx_negt (c := .le) rfl (by first | decide | omega) (by first | decide | omega) rfl rfl ?_
      refine gx_ld (i := 5) (d := 0) (v := .inl ((σ 7) - f)) rfl (fun _ => rfl) hl30 rfl rfl ?_
      refine gx_1t (c := .ge) rfl (by first | decide | omega) (show 0 ≤ (σ 7) - f from by omega) rfl ?_
      refine ex_go (S := (172, l30, [.inl 0], t1, n, 0)) rfl (fun _ => rfl) rfl ?_
      refine ex_ret (r := (some (.inl 0), t1, n, 0)) rfl (fun _ => rfl) ?_
      exact ⟨_, rfl, _, t1, rfl, g1, e1, N, hN, by
        rw [← ef, ← eg]
        exact (by rcases hsc with ⟨c1, c2, c3⟩ | ⟨c0, c1, c2, c3⟩ | ⟨c0, c1, c2, c3⟩ <;> omega)⟩
    · refine gx_isubn rfl (by first | decide | omega) (by first | decide | omega) rfl (fun z31 z31a z31b z31c => ?_)
      refine gx_sto (i := 5) (d := 0) rfl (fun _ => rfl) rfl rfl (fun l32 hl32 ml32 => ?_)
      have l32_0 : en_ld l32 0 = some (gx_r 0) := ml32 0 _ l29_0 rfl
      have l32_2 : en_ld l32 2 = some (.inl f) := ml32 2 _ l29_2 rfl
      have l32_3 : en_ld l32 3 = some (.inl g) := ml32 3 _ l29_3 rfl
      have l32_4 : en_ld l32 4 = some (.inl z28) := ml32 4 _ hl29 rfl
      refine gx_ld (i := 4) (d := 0) (v := .inl z28) rfl (fun _ => rfl) l32_4 rfl rfl ?_
      refine gx_negt (c := .le) rfl (by first | decide | omega) (by first | decide | omega) rfl rfl ?_
      refine gx_ld (i := 5) (d := 0) (v := .inl z31) rfl (fun _ => rfl) hl32 rfl rfl ?_
      refine gx_negf (c := .ge) rfl (by first | decide | omega) (by first | decide | omega) rfl rfl ?_
      refine gx_ld (i := 5) (d := 0) (v := .inl z31) rfl (fun _ => rfl) hl32 rfl rfl ?_
      refine ex_go (S := (172, l32, [.inl z31], t1, n, 0)) rfl (fun _ => rfl) rfl ?_
      refine ex_ret (r := (some (.inl z31), t1, n, 0)) rfl (fun _ => rfl) ?_
      exact ⟨_, rfl, _, t1, rfl, g1, e1, N, hN, by
        rw [← ef, ← eg]
        exact (by
        rcases hsc with ⟨c1, c2, c3⟩ | ⟨c0, c1, c2, c3⟩ | ⟨c0, c1, c2, c3⟩
        · omega
        · rw [c3, ng_p (by first | decide | omega) (by first | decide | omega)]; omega
        · omega)⟩
theorem sc_sharex257 (n : Nat) {t0 : en_H} {w : Nat → Nat → Nat} {L : List Nat} (g0 : ai_HG ah_G t0) (hC : CW t0 257 w L) (hw : WS w) (k10 : ai_hv t0 0 10 = some (gx_r 257)) (hn : ¬ w 0 4 = 2) : ∃ fuel ls, en_run en_df none (en_u 60) (en_code 89) (fun pc => Nat.beq pc 14) fuel 0 [(0, gx_r 0)] [] t0 n 0 = some (.inr (14, ls, [], t0, n, 0)) := by
  have hK := hw.1.2.2.2.2.1
  have h : en_ex none (en_u 60) (en_code 89) (fun pc => Nat.beq pc 14) (0, [(0, gx_r 0)], [], t0, n, 0) (fun o => ∃ ls, o = .inr (14, ls, [], t0, n, 0)) := by
    refine ex_go (S := (1, [(0, gx_r 0)], [gx_r 0], t0, n, 0)) rfl (fun _ => rfl) rfl ?_
    refine gxo_get (a := 0) rfl g0 rfl rfl k10 rfl ?_
    refine gxo_ref (a := 257) (c := 272) rfl g0 rfl rfl rfl rfl rfl ?_
    refine gxo_get (a := 272) rfl g0 rfl rfl hC.1.2.2.2.2.2 rfl ?_
    refine ex_go (S := (11, [(0, gx_r 0)], [.inl 2, .inl (w 0 4)], t0, n, 0)) rfl (fun _ => rfl) rfl ?_
    refine gx_2fs (c := .eq) rfl (by first | decide | omega) (by first | decide | omega) (show ¬ (w 0 4 = 2) from hn) rfl ⟨_, rfl⟩
  obtain ⟨fuel, o, h1, ls, rfl⟩ := h
  exact ⟨fuel, ls, h1⟩
end SSH
