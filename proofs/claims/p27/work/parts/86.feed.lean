section PKE
/-- a byte of a long, as the class reads it, and as the reference does -/
noncomputable def sgC (v s : Nat) : Nat := (lN (en_land (en_lshr v s) 255)).toInt32.toBitVec.toNat
noncomputable def sgM (v s : Nat) : Nat := (nI (lN (en_lshr v s)).toInt32.toBitVec.toNat &&& nI 255).toBitVec.toNat
theorem sgM_le (v s : Nat) : sgM v s ≤ 255 := by
  unfold sgM
  rw [Int32.toBitVec_and, BitVec.toNat_and]
  exact Nat.le_trans Nat.and_le_right (by decide)
theorem sgC_M (v s : Nat) : sgC v s = sgM v s := by
  unfold sgC sgM
  rw [en_nI_tn]
  have h1 : lN (en_land (en_lshr v s) 255) = lN (en_lshr v s) &&& lN 255 := en_lN_tn _
  rw [h1, Int64.toInt32_and]
  rfl
variable {oc : Option (List en_V)} {f : en_F} {code : Nat → Option en_I} {stop : Nat → Bool} {P : en_O → Prop}
variable {pc nx : Nat} {ls : en_L} {st : List en_V} {t : en_H} {n sl : Nat}
theorem gxo_mk {g : ai_g} {vs : List en_V} (h : (!g.1) = true) : ai_mk g vs = .inr (g.2.1, vs) := by
  unfold ai_mk
  cases hg : g.1
  · rfl
  · rw [hg] at h; cases h
theorem gxo_get {i x1 x2 a : Nat} {g : ai_g} {v : en_V} (hc : code pc = some (.getfield i, nx, x1, x2)) (hG : ai_HG ah_G t) (hg : ah_G a = some g) (hk : ((!g.1) && Nat.beq g.2.1 (x2 % 16)) = true) (hv : ai_hv t a x1 = some v) (hp : stop nx = false) (h : en_ex oc f code stop (nx, ls, v :: st, t, n, sl) P) : en_ex oc f code stop (pc, ls, gx_r a :: st, t, n, sl) P := by
  obtain ⟨vs, h1, h2, -⟩ := hG a g hg
  rw [Bool.and_eq_true] at hk
  rw [ai_hv_mk h1] at hv
  rw [gxo_mk hk.1] at h1
  exact ex_getf (q := (g.2.1, vs)) hc h1 hk.2 (by rw [en_nth_eq]; exact hv) hp h
theorem gxo_ref {i x1 x2 a c : Nat} {g : ai_g} (hc : code pc = some (.getfield i, nx, x1, x2)) (hG : ai_HG ah_G t) (hg : ah_G a = some g) (hk : ((!g.1) && Nat.beq g.2.1 (x2 % 16)) = true) (hb : Nat.blt x1 g.2.2.1 = true) (hr : ai_run g.2.2.2 x1 = some (.inr (.inr [c + 100]))) (hp : stop nx = false) (h : en_ex oc f code stop (nx, ls, gx_r c :: st, t, n, sl) P) : en_ex oc f code stop (pc, ls, gx_r a :: st, t, n, sl) P := by
  obtain ⟨v, k1, c', k3, k4⟩ := gx_sl hG hg (Nat.le_of_ble_eq_true hb) hr
  rcases List.mem_cons.mp k3 with rfl | k3
  · rw [ha_rc k4] at k1
    exact gxo_get hc hG hg hk k1 hp h
  · cases k3
theorem gxo_put {i x1 x2 a v : Nat} {g : ai_g} {p : Nat × Nat} (hc : code pc = some (.putfield i, nx, x1, x2)) (hG : ai_HG ah_G t) (hg : ah_G a = some g) (hk : ((!g.1) && (Nat.beq g.2.1 (x2 % 16) && en_fit (x2 / 16 % 4) (.inl v) && Nat.blt x1 g.2.2.1)) = true) (hr : ai_run g.2.2.2 x1 = some (.inl p)) (hb : ai_rh (.inl p) (.inl v)) (hp : stop nx = false) (h : ∀ t' : en_H, ai_HG ah_G t' → ai_hv t' a x1 = some (.inl v) → (∀ c j, ¬ (c = a ∧ j = x1) → ai_hv t' c j = ai_hv t c j) → en_ex oc f code stop (nx, ls, st, t', n, sl) P) : en_ex oc f code stop (pc, ls, .inl v :: gx_r a :: st, t, n, sl) P := by
  obtain ⟨vs, h1, h2, -⟩ := hG a g hg
  rw [Bool.and_eq_true] at hk
  obtain ⟨hk1, hx⟩ := hk
  have hlt : x1 < vs.length := by
    rw [h2]
    rw [Bool.and_eq_true] at hx
    exact Nat.le_of_ble_eq_true hx.2
  have hv := ai_set_hv (v := .inl v) h1 hlt
  have h4 := h _ (ai_set_HG hG hg h1 hlt hr hb) ((hv a x1).trans (if_pos ⟨rfl, rfl⟩)) (fun c j hn => (hv c j).trans (if_neg hn))
  rw [gxo_mk hk1] at h1 h4
  refine ex_go (S := (nx, ls, st, en_set t a (.inr (g.2.1, en_upd vs x1 (.inl v))), n, sl)) hc (fun k => ?_) hp h4
  show (match en_get t a with
    | some (.inr q) => bif Nat.beq q.1 (x2 % 16) && en_fit (x2 / 16 % 4) (.inl v) && Nat.blt x1 (en_len q.2) then k nx ls st (en_set t a (.inr (q.1, en_upd q.2 x1 (.inl v)))) n sl else none
    | _ => none) = _
  rw [h1]
  dsimp only
  rw [en_len_eq, h2, hx]
  rfl
theorem gx_i2b {x1 x2 a : Nat} (hc : code pc = some (.i2b, nx, x1, x2)) (hp : stop nx = false) (h : ∀ z, z < 4294967296 → (z < 128 ∨ 4294967168 ≤ z) → en_ex oc f code stop (nx, ls, .inl z :: st, t, n, sl) P) : en_ex oc f code stop (pc, ls, .inl a :: st, t, n, sl) P := by
  obtain ⟨z1, z2, z3⟩ := ai_i2b_ok a
  refine ex_go (S := (nx, ls, .inl ((nI a).toInt8.toInt32).toBitVec.toNat :: st, t, n, sl)) hc (fun k => rfl) hp (h _ z1 ?_)
  unfold ai_off at z2 z3
  dsimp only at z2 z3
  omega
theorem gx_bfit {t : en_H} {z : Nat} (h : z < 4294967296 ∧ (z < 128 ∨ 4294967168 ≤ z)) : en_afit t 2 1 (.inl z) = true := by
  show ((Nat.beq 1 2 && Nat.ble z 1) || (Nat.beq 1 1 && (Nat.blt z 128 || (Nat.ble 4294967168 z && Nat.blt z 4294967296)))) = true
  rcases h.2 with h1 | h1
  · rw [gx_blt h1]; simp
  · rw [gx_blt h.1, Nat.ble_eq_true_of_le h1]; simp
theorem gx_brh {z : Nat} (h1 : z < 4294967296) (h : z < 128 ∨ 4294967168 ≤ z) : ai_rh (.inl (2147483520, 2147483775)) (.inl z) := ⟨z, rfl, h1, by unfold ai_off; show 2147483520 ≤ _; omega, by unfold ai_off; show _ ≤ 2147483775; omega⟩
theorem gx_incC {ins : Instr} {x1 x2 i x a b : Nat} (hc : code pc = some (ins, nx, x1, x2)) (hi : ∀ k : en_K, en_step en_df oc f pc (ins, nx, x1, x2) ls st t n sl k = en_iinc i x nx ls st t n sl k) (hl : en_ld ls i = some (.inl a)) (hx : en_wrap (a + x) = b) (hp : stop nx = false) (h : ∀ ls' : en_L, en_ld ls' i = some (.inl b) → (∀ j w, en_ld ls j = some w → en_keep1 i (j, w) = true → en_ld ls' j = some w) → en_ex oc f code stop (nx, ls', st, t, n, sl) P) : en_ex oc f code stop (pc, ls, st, t, n, sl) P := by
  refine ex_go (S := (nx, (i, .inl b) :: en_flt (en_keep1 i) ls, st, t, n, sl)) hc (fun k => ?_) hp (h _ ?_ ?_)
  · rw [hi]
    unfold en_iinc
    rw [hl]
    dsimp only
    rw [hx]
  · show (bif Nat.beq i i then some (Sum.inl b : en_V) else _) = _
    rw [Nat.beq_refl]
    rfl
  · intro j w h1 h2
    show (bif Nat.beq i j then some (Sum.inl b : en_V) else en_ld (en_flt (en_keep1 i) ls) j) = some w
    cases hq : Nat.beq i j with
    | true =>
      have e := Nat.eq_of_beq_eq_true hq
      subst e
      have h2 : (bif Nat.beq i i then false else _) = true := h2
      rw [Nat.beq_refl] at h2
      cases h2
    | false => exact en_ld_flt h1 h2
theorem gx_callo {i x1 x2 a : Nat} {g : ai_g} {as rest : List en_V} {v : Option en_V} {t' : en_H} (hc : code pc = some (.invokevirtual i, nx, x1, x2)) (htk : en_take (x2 % 16) st [] = some (gx_r a :: as, rest)) (hG : ai_HG ah_G t) (hg : ah_G a = some g) (hk : ((!g.1) && Nat.beq g.2.1 (x2 / 16)) = true) (hsum : Nat.ble (en_sum rest) 8 = true) (hr : f x1 (gx_r a :: as) t n = some (v, t', n, 0)) (hp : stop nx = false) (h : en_ex oc f code stop (nx, ls, v.toList ++ rest, t', n, sl) P) : en_ex oc f code stop (pc, ls, st, t, n, sl) P := by
  obtain ⟨vs, h1, h2, -⟩ := hG a g hg
  rw [Bool.and_eq_true] at hk
  rw [gxo_mk hk.1] at h1
  exact ex_virt (q := (g.2.1, vs)) hc htk h1 hk.2 hsum hr (Nat.le_refl _) hp h
noncomputable def fd1 (len g : Nat) : Nat := if len < 1000 ∧ (g = 10 ∨ (32 ≤ g ∧ g ≤ 126)) then len + 1 else len
theorem fd1_le {len g : Nat} (h : len ≤ 1000) : fd1 len g ≤ 1000 := by unfold fd1; split <;> omega
theorem fd1_y {len g : Nat} (h1 : len < 1000) (h2 : g = 10 ∨ (32 ≤ g ∧ g ≤ 126)) : fd1 len g = len + 1 := if_pos ⟨h1, h2⟩
theorem fd1_n {len g : Nat} (h : ¬ (len < 1000 ∧ (g = 10 ∨ (32 ≤ g ∧ g ≤ 126)))) : fd1 len g = len := if_neg h
noncomputable def fdv_0 (v len : Nat) : Nat := fd1 len (sgM v 0)
noncomputable def fdv_8 (v len : Nat) : Nat := fdv_0 v (fd1 len (sgM v 8))
noncomputable def fdv_16 (v len : Nat) : Nat := fdv_8 v (fd1 len (sgM v 16))
noncomputable def fdv_24 (v len : Nat) : Nat := fdv_16 v (fd1 len (sgM v 24))
noncomputable def fdv_32 (v len : Nat) : Nat := fdv_24 v (fd1 len (sgM v 32))
noncomputable def fdv_40 (v len : Nat) : Nat := fdv_32 v (fd1 len (sgM v 40))
noncomputable def fdv_48 (v len : Nat) : Nat := fdv_40 v (fd1 len (sgM v 48))
noncomputable def fdv_56 (v len : Nat) : Nat := fdv_48 v (fd1 len (sgM v 56))
theorem fdv_le (v : Nat) {len : Nat} (h : len ≤ 1000) : fdv_56 v len ≤ 1000 := fd1_le (fd1_le (fd1_le (fd1_le (fd1_le (fd1_le (fd1_le (fd1_le h)))))))
theorem fzC_e {fn : en_F} {n v : Nat} {tb : en_H} (len : Nat) (cl : en_L) (t0 : en_H) (hl : len ≤ 1000) (g0 : ai_HG ah_G t0) (k0 : ai_hv t0 1 0 = some (.inl len)) (e0 : (∀ c i, ¬ ((c = 1 ∧ i = 0) ∨ c = 2) → ai_hv t0 c i = ai_hv tb c i)) (h0 : en_ld cl 0 = some (gx_r 1)) (h1 : en_ld cl 1 = some (.inr (.inl v))) (h3 : en_ld cl 3 = some (.inl 4294967288)) : en_ex none fn (en_code 90) (fun _ => false) (3, cl, [], t0, n, 0) (fun o => ∃ r, o = .inl r ∧ ∃ t', r = (none, t', n, 0) ∧ ai_HG ah_G t' ∧ ai_hv t' 1 0 = some (.inl (len)) ∧ (∀ c i, ¬ ((c = 1 ∧ i = 0) ∨ c = 2) → ai_hv t' c i = ai_hv tb c i)) := by
  refine gx_ld (i := 3) (d := 0) (v := .inl 4294967288) rfl (fun _ => rfl) h3 rfl rfl ?_
  refine ex_go (S := (76, cl, [], t0, n, 0)) rfl (fun _ => rfl) rfl ?_
  refine ex_ret (r := (none, t0, n, 0)) rfl (fun _ => rfl) ?_
  exact ⟨_, rfl, t0, rfl, g0, k0, (fun c i h => e0 c i h)⟩
theorem fzC_0 {fn : en_F} {n v : Nat} {tb : en_H} (len : Nat) (cl : en_L) (t0 : en_H) (hl : len ≤ 1000) (g0 : ai_HG ah_G t0) (k0 : ai_hv t0 1 0 = some (.inl len)) (e0 : (∀ c i, ¬ ((c = 1 ∧ i = 0) ∨ c = 2) → ai_hv t0 c i = ai_hv tb c i)) (h0 : en_ld cl 0 = some (gx_r 1)) (h1 : en_ld cl 1 = some (.inr (.inl v))) (h3 : en_ld cl 3 = some (.inl 0)) : en_ex none fn (en_code 90) (fun _ => false) (3, cl, [], t0, n, 0) (fun o => ∃ r, o = .inl r ∧ ∃ t', r = (none, t', n, 0) ∧ ai_HG ah_G t' ∧ ai_hv t' 1 0 = some (.inl (fdv_0 v len)) ∧ (∀ c i, ¬ ((c = 1 ∧ i = 0) ∨ c = 2) → ai_hv t' c i = ai_hv tb c i)) := by
  have hg := sgM_le v 0
  refine gx_ld (i := 3) (d := 0) (v := .inl 0) rfl (fun _ => rfl) h3 rfl rfl ?_
  refine ex_go (S := (7, cl, [], t0, n, 0)) rfl (fun _ => rfl) rfl ?_
  refine gx_ld (i := 1) (d := 1) (v := .inr (.inl v)) rfl (fun _ => rfl) h1 rfl rfl ?_
  refine gx_ld (i := 3) (d := 0) (v := .inl 0) rfl (fun _ => rfl) h3 rfl rfl ?_
  refine ex_go (S := (10, cl, [.inr (.inl (en_lshr v 0))], t0, n, 0)) rfl (fun _ => rfl) rfl ?_
  refine ex_go (S := (13, cl, [.inr (.inl 255), .inr (.inl (en_lshr v 0))], t0, n, 0)) rfl (fun _ => rfl) rfl ?_
  refine ex_go (S := (14, cl, [.inr (.inl (en_land (en_lshr v 0) 255))], t0, n, 0)) rfl (fun _ => rfl) rfl ?_
  refine ex_go (S := (15, cl, [.inl ((lN (en_land (en_lshr v 0) 255)).toInt32.toBitVec.toNat)], t0, n, 0)) rfl (fun _ => rfl) rfl ?_
  rw [show (lN (en_land (en_lshr v 0) 255)).toInt32.toBitVec.toNat = sgM v 0 from sgC_M v 0]
  refine gx_sto (i := 4) (d := 0) rfl (fun _ => rfl) rfl rfl (fun l1 hl1 ml1 => ?_)
  have l1_0 : en_ld l1 0 = some (gx_r 1) := ml1 0 _ h0 rfl
  have l1_1 : en_ld l1 1 = some (.inr (.inl v)) := ml1 1 _ h1 rfl
  have l1_3 : en_ld l1 3 = some (.inl 0) := ml1 3 _ h3 rfl
  refine gx_ld (i := 0) (d := 2) (v := gx_r 1) rfl (fun _ => rfl) l1_0 rfl rfl ?_
  refine gxo_get (a := 1) rfl g0 rfl rfl k0 rfl ?_
  refine ex_go (S := (24, l1, [.inl 1000, .inl len], t0, n, 0)) rfl (fun _ => rfl) rfl ?_
  by_cases hc2 : 1000 ≤ len
  · refine gx_2t (c := .ge) rfl (by first | decide | omega) (by first | decide | omega) hc2 rfl ?_
    refine gx_incC (i := 3) (a := 0) (b := 4294967288) rfl (fun _ => rfl) l1_3 rfl rfl (fun l3 hl3 ml3 => ?_)
    have l3_0 : en_ld l3 0 = some (gx_r 1) := ml3 0 _ l1_0 rfl
    have l3_1 : en_ld l3 1 = some (.inr (.inl v)) := ml3 1 _ l1_1 rfl
    have l3_4 : en_ld l3 4 = some (.inl (sgM v 0)) := ml3 4 _ hl1 rfl
    refine ex_go (S := (3, l3, [], t0, n, 0)) rfl (fun _ => rfl) rfl ?_
    have hq : fd1 len (sgM v 0) = len := fd1_n (by first | decide | omega)
    show en_ex _ _ _ _ _ (fun o => ∃ r, o = .inl r ∧ ∃ t', r = (none, t', n, 0) ∧ ai_HG ah_G t' ∧ ai_hv t' 1 0 = some (.inl (fd1 len (sgM v 0))) ∧ (∀ c i, ¬ ((c = 1 ∧ i = 0) ∨ c = 2) → ai_hv t' c i = ai_hv tb c i))
    rw [hq]
    exact fzC_e _ _ t0 (by first | decide | omega) g0 k0 (fun c i h => e0 c i h) l3_0 l3_1 hl3
  · refine gx_2f (c := .ge) rfl (by first | decide | omega) (by first | decide | omega) hc2 rfl ?_
    refine gx_ld (i := 4) (d := 0) (v := .inl (sgM v 0)) rfl (fun _ => rfl) hl1 rfl rfl ?_
    refine ex_go (S := (31, l1, [.inl 10, .inl (sgM v 0)], t0, n, 0)) rfl (fun _ => rfl) rfl ?_
    by_cases hc4 : sgM v 0 = 10
    · refine gx_2t (c := .eq) rfl (by first | decide | omega) (by first | decide | omega) hc4 rfl ?_
      refine gx_ld (i := 0) (d := 2) (v := gx_r 1) rfl (fun _ => rfl) l1_0 rfl rfl ?_
      refine gxo_ref (a := 1) (c := 2) rfl g0 rfl rfl rfl rfl rfl ?_
      refine gx_ld (i := 0) (d := 2) (v := gx_r 1) rfl (fun _ => rfl) l1_0 rfl rfl ?_
      refine gxo_get (a := 1) rfl g0 rfl rfl k0 rfl ?_
      refine gx_ld (i := 4) (d := 0) (v := .inl (sgM v 0)) rfl (fun _ => rfl) hl1 rfl rfl ?_
      refine gx_i2b rfl rfl (fun z5 z5a z5b => ?_)
      refine gx_apv (d := 2) rfl (fun _ => rfl) g0 rfl rfl (gx_bfit (by first | decide | omega)) (show len < 1000 from by omega) (gx_run1 (show len < 1000 from by omega)) (gx_brh (by first | decide | omega) (by first | decide | omega)) rfl (fun t106 g106 k106 e106 => ?_)
      have k7 : ai_hv t106 1 0 = some (.inl len) := (e106 1 0 (by first | decide | omega)).trans k0
      refine gx_ld (i := 0) (d := 2) (v := gx_r 1) rfl (fun _ => rfl) l1_0 rfl rfl ?_
      refine ex_go (S := (62, l1, [gx_r 1, gx_r 1], t106, n, 0)) rfl (fun _ => rfl) rfl ?_
      refine gxo_get (a := 1) rfl g106 rfl rfl k7 rfl ?_
      refine ex_go (S := (66, l1, [.inl 1, .inl len, gx_r 1], t106, n, 0)) rfl (fun _ => rfl) rfl ?_
      refine ex_iadd rfl (by first | decide | omega) rfl ?_
      refine gxo_put (a := 1) rfl g106 rfl rfl rfl (ai_in_h (by first | decide | omega) (by first | decide | omega) (by first | decide | omega)) rfl (fun t108 g108 k108 e108 => ?_)
      refine gx_incC (i := 3) (a := 0) (b := 4294967288) rfl (fun _ => rfl) l1_3 rfl rfl (fun l9 hl9 ml9 => ?_)
      have l9_0 : en_ld l9 0 = some (gx_r 1) := ml9 0 _ l1_0 rfl
      have l9_1 : en_ld l9 1 = some (.inr (.inl v)) := ml9 1 _ l1_1 rfl
      have l9_4 : en_ld l9 4 = some (.inl (sgM v 0)) := ml9 4 _ hl1 rfl
      refine ex_go (S := (3, l9, [], t108, n, 0)) rfl (fun _ => rfl) rfl ?_
      have hq : fd1 len (sgM v 0) = len + 1 := fd1_y (by first | decide | omega) (by first | decide | omega)
      show en_ex _ _ _ _ _ (fun o => ∃ r, o = .inl r ∧ ∃ t', r = (none, t', n, 0) ∧ ai_HG ah_G t' ∧ ai_hv t' 1 0 = some (.inl (fd1 len (sgM v 0))) ∧ (∀ c i, ¬ ((c = 1 ∧ i = 0) ∨ c = 2) → ai_hv t' c i = ai_hv tb c i))
      rw [hq]
      exact fzC_e _ _ t108 (by first | decide | omega) g108 k108 (fun c i h => (e108 c i (by first | decide | omega)).trans ((e106 c i (by first | decide | omega)).trans (e0 c i h))) l9_0 l9_1 hl9
    · refine gx_2f (c := .eq) rfl (by first | decide | omega) (by first | decide | omega) hc4 rfl ?_
      refine gx_ld (i := 4) (d := 0) (v := .inl (sgM v 0)) rfl (fun _ => rfl) hl1 rfl rfl ?_
      refine ex_go (S := (38, l1, [.inl 32, .inl (sgM v 0)], t0, n, 0)) rfl (fun _ => rfl) rfl ?_
      by_cases hc10 : sgM v 0 < 32
      · refine gx_2t (c := .lt) rfl (by first | decide | omega) (by first | decide | omega) hc10 rfl ?_
        refine gx_incC (i := 3) (a := 0) (b := 4294967288) rfl (fun _ => rfl) l1_3 rfl rfl (fun l11 hl11 ml11 => ?_)
        have l11_0 : en_ld l11 0 = some (gx_r 1) := ml11 0 _ l1_0 rfl
        have l11_1 : en_ld l11 1 = some (.inr (.inl v)) := ml11 1 _ l1_1 rfl
        have l11_4 : en_ld l11 4 = some (.inl (sgM v 0)) := ml11 4 _ hl1 rfl
        refine ex_go (S := (3, l11, [], t0, n, 0)) rfl (fun _ => rfl) rfl ?_
        have hq : fd1 len (sgM v 0) = len := fd1_n (by first | decide | omega)
        show en_ex _ _ _ _ _ (fun o => ∃ r, o = .inl r ∧ ∃ t', r = (none, t', n, 0) ∧ ai_HG ah_G t' ∧ ai_hv t' 1 0 = some (.inl (fd1 len (sgM v 0))) ∧ (∀ c i, ¬ ((c = 1 ∧ i = 0) ∨ c = 2) → ai_hv t' c i = ai_hv tb c i))
        rw [hq]
        exact fzC_e _ _ t0 (by first | decide | omega) g0 k0 (fun c i h => e0 c i h) l11_0 l11_1 hl11
      · refine gx_2f (c := .lt) rfl (by first | decide | omega) (by first | decide | omega) hc10 rfl ?_
        refine gx_ld (i := 4) (d := 0) (v := .inl (sgM v 0)) rfl (fun _ => rfl) hl1 rfl rfl ?_
        refine ex_go (S := (45, l1, [.inl 126, .inl (sgM v 0)], t0, n, 0)) rfl (fun _ => rfl) rfl ?_
        by_cases hc12 : 126 < sgM v 0
        · refine gx_2t (c := .gt) rfl (by first | decide | omega) (by first | decide | omega) hc12 rfl ?_
          refine gx_incC (i := 3) (a := 0) (b := 4294967288) rfl (fun _ => rfl) l1_3 rfl rfl (fun l13 hl13 ml13 => ?_)
          have l13_0 : en_ld l13 0 = some (gx_r 1) := ml13 0 _ l1_0 rfl
          have l13_1 : en_ld l13 1 = some (.inr (.inl v)) := ml13 1 _ l1_1 rfl
          have l13_4 : en_ld l13 4 = some (.inl (sgM v 0)) := ml13 4 _ hl1 rfl
          refine ex_go (S := (3, l13, [], t0, n, 0)) rfl (fun _ => rfl) rfl ?_
          have hq : fd1 len (sgM v 0) = len := fd1_n (by first | decide | omega)
          show en_ex _ _ _ _ _ (fun o => ∃ r, o = .inl r ∧ ∃ t', r = (none, t', n, 0) ∧ ai_HG ah_G t' ∧ ai_hv t' 1 0 = some (.inl (fd1 len (sgM v 0))) ∧ (∀ c i, ¬ ((c = 1 ∧ i = 0) ∨ c = 2) → ai_hv t' c i = ai_hv tb c i))
          rw [hq]
          exact fzC_e _ _ t0 (by first | decide | omega) g0 k0 (fun c i h => e0 c i h) l13_0 l13_1 hl13
        · refine gx_2f (c := .gt) rfl (by first | decide | omega) (by first | decide | omega) hc12 rfl ?_
          refine gx_ld (i := 0) (d := 2) (v := gx_r 1) rfl (fun _ => rfl) l1_0 rfl rfl ?_
          refine gxo_ref (a := 1) (c := 2) rfl g0 rfl rfl rfl rfl rfl ?_
          refine gx_ld (i := 0) (d := 2) (v := gx_r 1) rfl (fun _ => rfl) l1_0 rfl rfl ?_
          refine gxo_get (a := 1) rfl g0 rfl rfl k0 rfl ?_
          refine gx_ld (i := 4) (d := 0) (v := .inl (sgM v 0)) rfl (fun _ => rfl) hl1 rfl rfl ?_
          refine gx_i2b rfl rfl (fun z14 z14a z14b => ?_)
          refine gx_apv (d := 2) rfl (fun _ => rfl) g0 rfl rfl (gx_bfit (by first | decide | omega)) (show len < 1000 from by omega) (gx_run1 (show len < 1000 from by omega)) (gx_brh (by first | decide | omega) (by first | decide | omega)) rfl (fun t115 g115 k115 e115 => ?_)
          have k16 : ai_hv t115 1 0 = some (.inl len) := (e115 1 0 (by first | decide | omega)).trans k0
          refine gx_ld (i := 0) (d := 2) (v := gx_r 1) rfl (fun _ => rfl) l1_0 rfl rfl ?_
          refine ex_go (S := (62, l1, [gx_r 1, gx_r 1], t115, n, 0)) rfl (fun _ => rfl) rfl ?_
          refine gxo_get (a := 1) rfl g115 rfl rfl k16 rfl ?_
          refine ex_go (S := (66, l1, [.inl 1, .inl len, gx_r 1], t115, n, 0)) rfl (fun _ => rfl) rfl ?_
          refine ex_iadd rfl (by first | decide | omega) rfl ?_
          refine gxo_put (a := 1) rfl g115 rfl rfl rfl (ai_in_h (by first | decide | omega) (by first | decide | omega) (by first | decide | omega)) rfl (fun t117 g117 k117 e117 => ?_)
          refine gx_incC (i := 3) (a := 0) (b := 4294967288) rfl (fun _ => rfl) l1_3 rfl rfl (fun l18 hl18 ml18 => ?_)
          have l18_0 : en_ld l18 0 = some (gx_r 1) := ml18 0 _ l1_0 rfl
          have l18_1 : en_ld l18 1 = some (.inr (.inl v)) := ml18 1 _ l1_1 rfl
          have l18_4 : en_ld l18 4 = some (.inl (sgM v 0)) := ml18 4 _ hl1 rfl
          refine ex_go (S := (3, l18, [], t117, n, 0)) rfl (fun _ => rfl) rfl ?_
          have hq : fd1 len (sgM v 0) = len + 1 := fd1_y (by first | decide | omega) (by first | decide | omega)
          show en_ex _ _ _ _ _ (fun o => ∃ r, o = .inl r ∧ ∃ t', r = (none, t', n, 0) ∧ ai_HG ah_G t' ∧ ai_hv t' 1 0 = some (.inl (fd1 len (sgM v 0))) ∧ (∀ c i, ¬ ((c = 1 ∧ i = 0) ∨ c = 2) → ai_hv t' c i = ai_hv tb c i))
          rw [hq]
          exact fzC_e _ _ t117 (by first | decide | omega) g117 k117 (fun c i h => (e117 c i (by first | decide | omega)).trans ((e115 c i (by first | decide | omega)).trans (e0 c i h))) l18_0 l18_1 hl18
theorem fzC_8 {fn : en_F} {n v : Nat} {tb : en_H} (len : Nat) (cl : en_L) (t0 : en_H) (hl : len ≤ 1000) (g0 : ai_HG ah_G t0) (k0 : ai_hv t0 1 0 = some (.inl len)) (e0 : (∀ c i, ¬ ((c = 1 ∧ i = 0) ∨ c = 2) → ai_hv t0 c i = ai_hv tb c i)) (h0 : en_ld cl 0 = some (gx_r 1)) (h1 : en_ld cl 1 = some (.inr (.inl v))) (h3 : en_ld cl 3 = some (.inl 8)) : en_ex none fn (en_code 90) (fun _ => false) (3, cl, [], t0, n, 0) (fun o => ∃ r, o = .inl r ∧ ∃ t', r = (none, t', n, 0) ∧ ai_HG ah_G t' ∧ ai_hv t' 1 0 = some (.inl (fdv_8 v len)) ∧ (∀ c i, ¬ ((c = 1 ∧ i = 0) ∨ c = 2) → ai_hv t' c i = ai_hv tb c i)) := by
  have hg := sgM_le v 8
  refine gx_ld (i := 3) (d := 0) (v := .inl 8) rfl (fun _ => rfl) h3 rfl rfl ?_
  refine ex_go (S := (7, cl, [], t0, n, 0)) rfl (fun _ => rfl) rfl ?_
  refine gx_ld (i := 1) (d := 1) (v := .inr (.inl v)) rfl (fun _ => rfl) h1 rfl rfl ?_
  refine gx_ld (i := 3) (d := 0) (v := .inl 8) rfl (fun _ => rfl) h3 rfl rfl ?_
  refine ex_go (S := (10, cl, [.inr (.inl (en_lshr v 8))], t0, n, 0)) rfl (fun _ => rfl) rfl ?_
  refine ex_go (S := (13, cl, [.inr (.inl 255), .inr (.inl (en_lshr v 8))], t0, n, 0)) rfl (fun _ => rfl) rfl ?_
  refine ex_go (S := (14, cl, [.inr (.inl (en_land (en_lshr v 8) 255))], t0, n, 0)) rfl (fun _ => rfl) rfl ?_
  refine ex_go (S := (15, cl, [.inl ((lN (en_land (en_lshr v 8) 255)).toInt32.toBitVec.toNat)], t0, n, 0)) rfl (fun _ => rfl) rfl ?_
  rw [show (lN (en_land (en_lshr v 8) 255)).toInt32.toBitVec.toNat = sgM v 8 from sgC_M v 8]
  refine gx_sto (i := 4) (d := 0) rfl (fun _ => rfl) rfl rfl (fun l1 hl1 ml1 => ?_)
  have l1_0 : en_ld l1 0 = some (gx_r 1) := ml1 0 _ h0 rfl
  have l1_1 : en_ld l1 1 = some (.inr (.inl v)) := ml1 1 _ h1 rfl
  have l1_3 : en_ld l1 3 = some (.inl 8) := ml1 3 _ h3 rfl
  refine gx_ld (i := 0) (d := 2) (v := gx_r 1) rfl (fun _ => rfl) l1_0 rfl rfl ?_
  refine gxo_get (a := 1) rfl g0 rfl rfl k0 rfl ?_
  refine ex_go (S := (24, l1, [.inl 1000, .inl len], t0, n, 0)) rfl (fun _ => rfl) rfl ?_
  by_cases hc2 : 1000 ≤ len
  · refine gx_2t (c := .ge) rfl (by first | decide | omega) (by first | decide | omega) hc2 rfl ?_
    refine gx_incC (i := 3) (a := 8) (b := 0) rfl (fun _ => rfl) l1_3 rfl rfl (fun l3 hl3 ml3 => ?_)
    have l3_0 : en_ld l3 0 = some (gx_r 1) := ml3 0 _ l1_0 rfl
    have l3_1 : en_ld l3 1 = some (.inr (.inl v)) := ml3 1 _ l1_1 rfl
    have l3_4 : en_ld l3 4 = some (.inl (sgM v 8)) := ml3 4 _ hl1 rfl
    refine ex_go (S := (3, l3, [], t0, n, 0)) rfl (fun _ => rfl) rfl ?_
    have hq : fd1 len (sgM v 8) = len := fd1_n (by first | decide | omega)
    show en_ex _ _ _ _ _ (fun o => ∃ r, o = .inl r ∧ ∃ t', r = (none, t', n, 0) ∧ ai_HG ah_G t' ∧ ai_hv t' 1 0 = some (.inl (fdv_0 v (fd1 len (sgM v 8)))) ∧ (∀ c i, ¬ ((c = 1 ∧ i = 0) ∨ c = 2) → ai_hv t' c i = ai_hv tb c i))
    rw [hq]
    exact fzC_0 _ _ t0 (by first | decide | omega) g0 k0 (fun c i h => e0 c i h) l3_0 l3_1 hl3
  · refine gx_2f (c := .ge) rfl (by first | decide | omega) (by first | decide | omega) hc2 rfl ?_
    refine gx_ld (i := 4) (d := 0) (v := .inl (sgM v 8)) rfl (fun _ => rfl) hl1 rfl rfl ?_
    refine ex_go (S := (31, l1, [.inl 10, .inl (sgM v 8)], t0, n, 0)) rfl (fun _ => rfl) rfl ?_
    by_cases hc4 : sgM v 8 = 10
    · refine gx_2t (c := .eq) rfl (by first | decide | omega) (by first | decide | omega) hc4 rfl ?_
      refine gx_ld (i := 0) (d := 2) (v := gx_r 1) rfl (fun _ => rfl) l1_0 rfl rfl ?_
      refine gxo_ref (a := 1) (c := 2) rfl g0 rfl rfl rfl rfl rfl ?_
      refine gx_ld (i := 0) (d := 2) (v := gx_r 1) rfl (fun _ => rfl) l1_0 rfl rfl ?_
      refine gxo_get (a := 1) rfl g0 rfl rfl k0 rfl ?_
      refine gx_ld (i := 4) (d := 0) (v := .inl (sgM v 8)) rfl (fun _ => rfl) hl1 rfl rfl ?_
      refine gx_i2b rfl rfl (fun z5 z5a z5b => ?_)
      refine gx_apv (d := 2) rfl (fun _ => rfl) g0 rfl rfl (gx_bfit (by first | decide | omega)) (show len < 1000 from by omega) (gx_run1 (show len < 1000 from by omega)) (gx_brh (by first | decide | omega) (by first | decide | omega)) rfl (fun t106 g106 k106 e106 => ?_)
      have k7 : ai_hv t106 1 0 = some (.inl len) := (e106 1 0 (by first | decide | omega)).trans k0
      refine gx_ld (i := 0) (d := 2) (v := gx_r 1) rfl (fun _ => rfl) l1_0 rfl rfl ?_
      refine ex_go (S := (62, l1, [gx_r 1, gx_r 1], t106, n, 0)) rfl (fun _ => rfl) rfl ?_
      refine gxo_get (a := 1) rfl g106 rfl rfl k7 rfl ?_
      refine ex_go (S := (66, l1, [.inl 1, .inl len, gx_r 1], t106, n, 0)) rfl (fun _ => rfl) rfl ?_
      refine ex_iadd rfl (by first | decide | omega) rfl ?_
      refine gxo_put (a := 1) rfl g106 rfl rfl rfl (ai_in_h (by first | decide | omega) (by first | decide | omega) (by first | decide | omega)) rfl (fun t108 g108 k108 e108 => ?_)
      refine gx_incC (i := 3) (a := 8) (b := 0) rfl (fun _ => rfl) l1_3 rfl rfl (fun l9 hl9 ml9 => ?_)
      have l9_0 : en_ld l9 0 = some (gx_r 1) := ml9 0 _ l1_0 rfl
      have l9_1 : en_ld l9 1 = some (.inr (.inl v)) := ml9 1 _ l1_1 rfl
      have l9_4 : en_ld l9 4 = some (.inl (sgM v 8)) := ml9 4 _ hl1 rfl
      refine ex_go (S := (3, l9, [], t108, n, 0)) rfl (fun _ => rfl) rfl ?_
      have hq : fd1 len (sgM v 8) = len + 1 := fd1_y (by first | decide | omega) (by first | decide | omega)
      show en_ex _ _ _ _ _ (fun o => ∃ r, o = .inl r ∧ ∃ t', r = (none, t', n, 0) ∧ ai_HG ah_G t' ∧ ai_hv t' 1 0 = some (.inl (fdv_0 v (fd1 len (sgM v 8)))) ∧ (∀ c i, ¬ ((c = 1 ∧ i = 0) ∨ c = 2) → ai_hv t' c i = ai_hv tb c i))
      rw [hq]
      exact fzC_0 _ _ t108 (by first | decide | omega) g108 k108 (fun c i h => (e108 c i (by first | decide | omega)).trans ((e106 c i (by first | decide | omega)).trans (e0 c i h))) l9_0 l9_1 hl9
    · refine gx_2f (c := .eq) rfl (by first | decide | omega) (by first | decide | omega) hc4 rfl ?_
      refine gx_ld (i := 4) (d := 0) (v := .inl (sgM v 8)) rfl (fun _ => rfl) hl1 rfl rfl ?_
      refine ex_go (S := (38, l1, [.inl 32, .inl (sgM v 8)], t0, n, 0)) rfl (fun _ => rfl) rfl ?_
      by_cases hc10 : sgM v 8 < 32
      · refine gx_2t (c := .lt) rfl (by first | decide | omega) (by first | decide | omega) hc10 rfl ?_
        refine gx_incC (i := 3) (a := 8) (b := 0) rfl (fun _ => rfl) l1_3 rfl rfl (fun l11 hl11 ml11 => ?_)
        have l11_0 : en_ld l11 0 = some (gx_r 1) := ml11 0 _ l1_0 rfl
        have l11_1 : en_ld l11 1 = some (.inr (.inl v)) := ml11 1 _ l1_1 rfl
        have l11_4 : en_ld l11 4 = some (.inl (sgM v 8)) := ml11 4 _ hl1 rfl
        refine ex_go (S := (3, l11, [], t0, n, 0)) rfl (fun _ => rfl) rfl ?_
        have hq : fd1 len (sgM v 8) = len := fd1_n (by first | decide | omega)
        show en_ex _ _ _ _ _ (fun o => ∃ r, o = .inl r ∧ ∃ t', r = (none, t', n, 0) ∧ ai_HG ah_G t' ∧ ai_hv t' 1 0 = some (.inl (fdv_0 v (fd1 len (sgM v 8)))) ∧ (∀ c i, ¬ ((c = 1 ∧ i = 0) ∨ c = 2) → ai_hv t' c i = ai_hv tb c i))
        rw [hq]
        exact fzC_0 _ _ t0 (by first | decide | omega) g0 k0 (fun c i h => e0 c i h) l11_0 l11_1 hl11
      · refine gx_2f (c := .lt) rfl (by first | decide | omega) (by first | decide | omega) hc10 rfl ?_
        refine gx_ld (i := 4) (d := 0) (v := .inl (sgM v 8)) rfl (fun _ => rfl) hl1 rfl rfl ?_
        refine ex_go (S := (45, l1, [.inl 126, .inl (sgM v 8)], t0, n, 0)) rfl (fun _ => rfl) rfl ?_
        by_cases hc12 : 126 < sgM v 8
        · refine gx_2t (c := .gt) rfl (by first | decide | omega) (by first | decide | omega) hc12 rfl ?_
          refine gx_incC (i := 3) (a := 8) (b := 0) rfl (fun _ => rfl) l1_3 rfl rfl (fun l13 hl13 ml13 => ?_)
          have l13_0 : en_ld l13 0 = some (gx_r 1) := ml13 0 _ l1_0 rfl
          have l13_1 : en_ld l13 1 = some (.inr (.inl v)) := ml13 1 _ l1_1 rfl
          have l13_4 : en_ld l13 4 = some (.inl (sgM v 8)) := ml13 4 _ hl1 rfl
          refine ex_go (S := (3, l13, [], t0, n, 0)) rfl (fun _ => rfl) rfl ?_
          have hq : fd1 len (sgM v 8) = len := fd1_n (by first | decide | omega)
          show en_ex _ _ _ _ _ (fun o => ∃ r, o = .inl r ∧ ∃ t', r = (none, t', n, 0) ∧ ai_HG ah_G t' ∧ ai_hv t' 1 0 = some (.inl (fdv_0 v (fd1 len (sgM v 8)))) ∧ (∀ c i, ¬ ((c = 1 ∧ i = 0) ∨ c = 2) → ai_hv t' c i = ai_hv tb c i))
          rw [hq]
          exact fzC_0 _ _ t0 (by first | decide | omega) g0 k0 (fun c i h => e0 c i h) l13_0 l13_1 hl13
        · refine gx_2f (c := .gt) rfl (by first | decide | omega) (by first | decide | omega) hc12 rfl ?_
          refine gx_ld (i := 0) (d := 2) (v := gx_r 1) rfl (fun _ => rfl) l1_0 rfl rfl ?_
          refine gxo_ref (a := 1) (c := 2) rfl g0 rfl rfl rfl rfl rfl ?_
          refine gx_ld (i := 0) (d := 2) (v := gx_r 1) rfl (fun _ => rfl) l1_0 rfl rfl ?_
          refine gxo_get (a := 1) rfl g0 rfl rfl k0 rfl ?_
          refine gx_ld (i := 4) (d := 0) (v := .inl (sgM v 8)) rfl (fun _ => rfl) hl1 rfl rfl ?_
          refine gx_i2b rfl rfl (fun z14 z14a z14b => ?_)
          refine gx_apv (d := 2) rfl (fun _ => rfl) g0 rfl rfl (gx_bfit (by first | decide | omega)) (show len < 1000 from by omega) (gx_run1 (show len < 1000 from by omega)) (gx_brh (by first | decide | omega) (by first | decide | omega)) rfl (fun t115 g115 k115 e115 => ?_)
          have k16 : ai_hv t115 1 0 = some (.inl len) := (e115 1 0 (by first | decide | omega)).trans k0
          refine gx_ld (i := 0) (d := 2) (v := gx_r 1) rfl (fun _ => rfl) l1_0 rfl rfl ?_
          refine ex_go (S := (62, l1, [gx_r 1, gx_r 1], t115, n, 0)) rfl (fun _ => rfl) rfl ?_
          refine gxo_get (a := 1) rfl g115 rfl rfl k16 rfl ?_
          refine ex_go (S := (66, l1, [.inl 1, .inl len, gx_r 1], t115, n, 0)) rfl (fun _ => rfl) rfl ?_
          refine ex_iadd rfl (by first | decide | omega) rfl ?_
          refine gxo_put (a := 1) rfl g115 rfl rfl rfl (ai_in_h (by first | decide | omega) (by first | decide | omega) (by first | decide | omega)) rfl (fun t117 g117 k117 e117 => ?_)
          refine gx_incC (i := 3) (a := 8) (b := 0) rfl (fun _ => rfl) l1_3 rfl rfl (fun l18 hl18 ml18 => ?_)
          have l18_0 : en_ld l18 0 = some (gx_r 1) := ml18 0 _ l1_0 rfl
          have l18_1 : en_ld l18 1 = some (.inr (.inl v)) := ml18 1 _ l1_1 rfl
          have l18_4 : en_ld l18 4 = some (.inl (sgM v 8)) := ml18 4 _ hl1 rfl
          refine ex_go (S := (3, l18, [], t117, n, 0)) rfl (fun _ => rfl) rfl ?_
          have hq : fd1 len (sgM v 8) = len + 1 := fd1_y (by first | decide | omega) (by first | decide | omega)
          show en_ex _ _ _ _ _ (fun o => ∃ r, o = .inl r ∧ ∃ t', r = (none, t', n, 0) ∧ ai_HG ah_G t' ∧ ai_hv t' 1 0 = some (.inl (fdv_0 v (fd1 len (sgM v 8)))) ∧ (∀ c i, ¬ ((c = 1 ∧ i = 0) ∨ c = 2) → ai_hv t' c i = ai_hv tb c i))
          rw [hq]
          exact fzC_0 _ _ t117 (by first | decide | omega) g117 k117 (fun c i h => (e117 c i (by first | decide | omega)).trans ((e115 c i (by first | decide | omega)).trans (e0 c i h))) l18_0 l18_1 hl18
theorem fzC_16 {fn : en_F} {n v : Nat} {tb : en_H} (len : Nat) (cl : en_L) (t0 : en_H) (hl : len ≤ 1000) (g0 : ai_HG ah_G t0) (k0 : ai_hv t0 1 0 = some (.inl len)) (e0 : (∀ c i, ¬ ((c = 1 ∧ i = 0) ∨ c = 2) → ai_hv t0 c i = ai_hv tb c i)) (h0 : en_ld cl 0 = some (gx_r 1)) (h1 : en_ld cl 1 = some (.inr (.inl v))) (h3 : en_ld cl 3 = some (.inl 16)) : en_ex none fn (en_code 90) (fun _ => false) (3, cl, [], t0, n, 0) (fun o => ∃ r, o = .inl r ∧ ∃ t', r = (none, t', n, 0) ∧ ai_HG ah_G t' ∧ ai_hv t' 1 0 = some (.inl (fdv_16 v len)) ∧ (∀ c i, ¬ ((c = 1 ∧ i = 0) ∨ c = 2) → ai_hv t' c i = ai_hv tb c i)) := by
  have hg := sgM_le v 16
  refine gx_ld (i := 3) (d := 0) (v := .inl 16) rfl (fun _ => rfl) h3 rfl rfl ?_
  refine ex_go (S := (7, cl, [], t0, n, 0)) rfl (fun _ => rfl) rfl ?_
  refine gx_ld (i := 1) (d := 1) (v := .inr (.inl v)) rfl (fun _ => rfl) h1 rfl rfl ?_
  refine gx_ld (i := 3) (d := 0) (v := .inl 16) rfl (fun _ => rfl) h3 rfl rfl ?_
  refine ex_go (S := (10, cl, [.inr (.inl (en_lshr v 16))], t0, n, 0)) rfl (fun _ => rfl) rfl ?_
  refine ex_go (S := (13, cl, [.inr (.inl 255), .inr (.inl (en_lshr v 16))], t0, n, 0)) rfl (fun _ => rfl) rfl ?_
  refine ex_go (S := (14, cl, [.inr (.inl (en_land (en_lshr v 16) 255))], t0, n, 0)) rfl (fun _ => rfl) rfl ?_
  refine ex_go (S := (15, cl, [.inl ((lN (en_land (en_lshr v 16) 255)).toInt32.toBitVec.toNat)], t0, n, 0)) rfl (fun _ => rfl) rfl ?_
  rw [show (lN (en_land (en_lshr v 16) 255)).toInt32.toBitVec.toNat = sgM v 16 from sgC_M v 16]
  refine gx_sto (i := 4) (d := 0) rfl (fun _ => rfl) rfl rfl (fun l1 hl1 ml1 => ?_)
  have l1_0 : en_ld l1 0 = some (gx_r 1) := ml1 0 _ h0 rfl
  have l1_1 : en_ld l1 1 = some (.inr (.inl v)) := ml1 1 _ h1 rfl
  have l1_3 : en_ld l1 3 = some (.inl 16) := ml1 3 _ h3 rfl
  refine gx_ld (i := 0) (d := 2) (v := gx_r 1) rfl (fun _ => rfl) l1_0 rfl rfl ?_
  refine gxo_get (a := 1) rfl g0 rfl rfl k0 rfl ?_
  refine ex_go (S := (24, l1, [.inl 1000, .inl len], t0, n, 0)) rfl (fun _ => rfl) rfl ?_
  by_cases hc2 : 1000 ≤ len
  · refine gx_2t (c := .ge) rfl (by first | decide | omega) (by first | decide | omega) hc2 rfl ?_
    refine gx_incC (i := 3) (a := 16) (b := 8) rfl (fun _ => rfl) l1_3 rfl rfl (fun l3 hl3 ml3 => ?_)
    have l3_0 : en_ld l3 0 = some (gx_r 1) := ml3 0 _ l1_0 rfl
    have l3_1 : en_ld l3 1 = some (.inr (.inl v)) := ml3 1 _ l1_1 rfl
    have l3_4 : en_ld l3 4 = some (.inl (sgM v 16)) := ml3 4 _ hl1 rfl
    refine ex_go (S := (3, l3, [], t0, n, 0)) rfl (fun _ => rfl) rfl ?_
    have hq : fd1 len (sgM v 16) = len := fd1_n (by first | decide | omega)
    show en_ex _ _ _ _ _ (fun o => ∃ r, o = .inl r ∧ ∃ t', r = (none, t', n, 0) ∧ ai_HG ah_G t' ∧ ai_hv t' 1 0 = some (.inl (fdv_8 v (fd1 len (sgM v 16)))) ∧ (∀ c i, ¬ ((c = 1 ∧ i = 0) ∨ c = 2) → ai_hv t' c i = ai_hv tb c i))
    rw [hq]
    exact fzC_8 _ _ t0 (by first | decide | omega) g0 k0 (fun c i h => e0 c i h) l3_0 l3_1 hl3
  · refine gx_2f (c := .ge) rfl (by first | decide | omega) (by first | decide | omega) hc2 rfl ?_
    refine gx_ld (i := 4) (d := 0) (v := .inl (sgM v 16)) rfl (fun _ => rfl) hl1 rfl rfl ?_
    refine ex_go (S := (31, l1, [.inl 10, .inl (sgM v 16)], t0, n, 0)) rfl (fun _ => rfl) rfl ?_
    by_cases hc4 : sgM v 16 = 10
    · refine gx_2t (c := .eq) rfl (by first | decide | omega) (by first | decide | omega) hc4 rfl ?_
      refine gx_ld (i := 0) (d := 2) (v := gx_r 1) rfl (fun _ => rfl) l1_0 rfl rfl ?_
      refine gxo_ref (a := 1) (c := 2) rfl g0 rfl rfl rfl rfl rfl ?_
      refine gx_ld (i := 0) (d := 2) (v := gx_r 1) rfl (fun _ => rfl) l1_0 rfl rfl ?_
      refine gxo_get (a := 1) rfl g0 rfl rfl k0 rfl ?_
      refine gx_ld (i := 4) (d := 0) (v := .inl (sgM v 16)) rfl (fun _ => rfl) hl1 rfl rfl ?_
      refine gx_i2b rfl rfl (fun z5 z5a z5b => ?_)
      refine gx_apv (d := 2) rfl (fun _ => rfl) g0 rfl rfl (gx_bfit (by first | decide | omega)) (show len < 1000 from by omega) (gx_run1 (show len < 1000 from by omega)) (gx_brh (by first | decide | omega) (by first | decide | omega)) rfl (fun t106 g106 k106 e106 => ?_)
      have k7 : ai_hv t106 1 0 = some (.inl len) := (e106 1 0 (by first | decide | omega)).trans k0
      refine gx_ld (i := 0) (d := 2) (v := gx_r 1) rfl (fun _ => rfl) l1_0 rfl rfl ?_
      refine ex_go (S := (62, l1, [gx_r 1, gx_r 1], t106, n, 0)) rfl (fun _ => rfl) rfl ?_
      refine gxo_get (a := 1) rfl g106 rfl rfl k7 rfl ?_
      refine ex_go (S := (66, l1, [.inl 1, .inl len, gx_r 1], t106, n, 0)) rfl (fun _ => rfl) rfl ?_
      refine ex_iadd rfl (by first | decide | omega) rfl ?_
      refine gxo_put (a := 1) rfl g106 rfl rfl rfl (ai_in_h (by first | decide | omega) (by first | decide | omega) (by first | decide | omega)) rfl (fun t108 g108 k108 e108 => ?_)
      refine gx_incC (i := 3) (a := 16) (b := 8) rfl (fun _ => rfl) l1_3 rfl rfl (fun l9 hl9 ml9 => ?_)
      have l9_0 : en_ld l9 0 = some (gx_r 1) := ml9 0 _ l1_0 rfl
      have l9_1 : en_ld l9 1 = some (.inr (.inl v)) := ml9 1 _ l1_1 rfl
      have l9_4 : en_ld l9 4 = some (.inl (sgM v 16)) := ml9 4 _ hl1 rfl
      refine ex_go (S := (3, l9, [], t108, n, 0)) rfl (fun _ => rfl) rfl ?_
      have hq : fd1 len (sgM v 16) = len + 1 := fd1_y (by first | decide | omega) (by first | decide | omega)
      show en_ex _ _ _ _ _ (fun o => ∃ r, o = .inl r ∧ ∃ t', r = (none, t', n, 0) ∧ ai_HG ah_G t' ∧ ai_hv t' 1 0 = some (.inl (fdv_8 v (fd1 len (sgM v 16)))) ∧ (∀ c i, ¬ ((c = 1 ∧ i = 0) ∨ c = 2) → ai_hv t' c i = ai_hv tb c i))
      rw [hq]
      exact fzC_8 _ _ t108 (by first | decide | omega) g108 k108 (fun c i h => (e108 c i (by first | decide | omega)).trans ((e106 c i (by first | decide | omega)).trans (e0 c i h))) l9_0 l9_1 hl9
    · refine gx_2f (c := .eq) rfl (by first | decide | omega) (by first | decide | omega) hc4 rfl ?_
      refine gx_ld (i := 4) (d := 0) (v := .inl (sgM v 16)) rfl (fun _ => rfl) hl1 rfl rfl ?_
      refine ex_go (S := (38, l1, [.inl 32, .inl (sgM v 16)], t0, n, 0)) rfl (fun _ => rfl) rfl ?_
      by_cases hc10 : sgM v 16 < 32
      · refine gx_2t (c := .lt) rfl (by first | decide | omega) (by first | decide | omega) hc10 rfl ?_
        refine gx_incC (i := 3) (a := 16) (b := 8) rfl (fun _ => rfl) l1_3 rfl rfl (fun l11 hl11 ml11 => ?_)
        have l11_0 : en_ld l11 0 = some (gx_r 1) := ml11 0 _ l1_0 rfl
        have l11_1 : en_ld l11 1 = some (.inr (.inl v)) := ml11 1 _ l1_1 rfl
        have l11_4 : en_ld l11 4 = some (.inl (sgM v 16)) := ml11 4 _ hl1 rfl
        refine ex_go (S := (3, l11, [], t0, n, 0)) rfl (fun _ => rfl) rfl ?_
        have hq : fd1 len (sgM v 16) = len := fd1_n (by first | decide | omega)
        show en_ex _ _ _ _ _ (fun o => ∃ r, o = .inl r ∧ ∃ t', r = (none, t', n, 0) ∧ ai_HG ah_G t' ∧ ai_hv t' 1 0 = some (.inl (fdv_8 v (fd1 len (sgM v 16)))) ∧ (∀ c i, ¬ ((c = 1 ∧ i = 0) ∨ c = 2) → ai_hv t' c i = ai_hv tb c i))
        rw [hq]
        exact fzC_8 _ _ t0 (by first | decide | omega) g0 k0 (fun c i h => e0 c i h) l11_0 l11_1 hl11
      · refine gx_2f (c := .lt) rfl (by first | decide | omega) (by first | decide | omega) hc10 rfl ?_
        refine gx_ld (i := 4) (d := 0) (v := .inl (sgM v 16)) rfl (fun _ => rfl) hl1 rfl rfl ?_
        refine ex_go (S := (45, l1, [.inl 126, .inl (sgM v 16)], t0, n, 0)) rfl (fun _ => rfl) rfl ?_
        by_cases hc12 : 126 < sgM v 16
        · refine gx_2t (c := .gt) rfl (by first | decide | omega) (by first | decide | omega) hc12 rfl ?_
          refine gx_incC (i := 3) (a := 16) (b := 8) rfl (fun _ => rfl) l1_3 rfl rfl (fun l13 hl13 ml13 => ?_)
          have l13_0 : en_ld l13 0 = some (gx_r 1) := ml13 0 _ l1_0 rfl
          have l13_1 : en_ld l13 1 = some (.inr (.inl v)) := ml13 1 _ l1_1 rfl
          have l13_4 : en_ld l13 4 = some (.inl (sgM v 16)) := ml13 4 _ hl1 rfl
          refine ex_go (S := (3, l13, [], t0, n, 0)) rfl (fun _ => rfl) rfl ?_
          have hq : fd1 len (sgM v 16) = len := fd1_n (by first | decide | omega)
          show en_ex _ _ _ _ _ (fun o => ∃ r, o = .inl r ∧ ∃ t', r = (none, t', n, 0) ∧ ai_HG ah_G t' ∧ ai_hv t' 1 0 = some (.inl (fdv_8 v (fd1 len (sgM v 16)))) ∧ (∀ c i, ¬ ((c = 1 ∧ i = 0) ∨ c = 2) → ai_hv t' c i = ai_hv tb c i))
          rw [hq]
          exact fzC_8 _ _ t0 (by first | decide | omega) g0 k0 (fun c i h => e0 c i h) l13_0 l13_1 hl13
        · refine gx_2f (c := .gt) rfl (by first | decide | omega) (by first | decide | omega) hc12 rfl ?_
          refine gx_ld (i := 0) (d := 2) (v := gx_r 1) rfl (fun _ => rfl) l1_0 rfl rfl ?_
          refine gxo_ref (a := 1) (c := 2) rfl g0 rfl rfl rfl rfl rfl ?_
          refine gx_ld (i := 0) (d := 2) (v := gx_r 1) rfl (fun _ => rfl) l1_0 rfl rfl ?_
          refine gxo_get (a := 1) rfl g0 rfl rfl k0 rfl ?_
          refine gx_ld (i := 4) (d := 0) (v := .inl (sgM v 16)) rfl (fun _ => rfl) hl1 rfl rfl ?_
          refine gx_i2b rfl rfl (fun z14 z14a z14b => ?_)
          refine gx_apv (d := 2) rfl (fun _ => rfl) g0 rfl rfl (gx_bfit (by first | decide | omega)) (show len < 1000 from by omega) (gx_run1 (show len < 1000 from by omega)) (gx_brh (by first | decide | omega) (by first | decide | omega)) rfl (fun t115 g115 k115 e115 => ?_)
          have k16 : ai_hv t115 1 0 = some (.inl len) := (e115 1 0 (by first | decide | omega)).trans k0
          refine gx_ld (i := 0) (d := 2) (v := gx_r 1) rfl (fun _ => rfl) l1_0 rfl rfl ?_
          refine ex_go (S := (62, l1, [gx_r 1, gx_r 1], t115, n, 0)) rfl (fun _ => rfl) rfl ?_
          refine gxo_get (a := 1) rfl g115 rfl rfl k16 rfl ?_
          refine ex_go (S := (66, l1, [.inl 1, .inl len, gx_r 1], t115, n, 0)) rfl (fun _ => rfl) rfl ?_
          refine ex_iadd rfl (by first | decide | omega) rfl ?_
          refine gxo_put (a := 1) rfl g115 rfl rfl rfl (ai_in_h (by first | decide | omega) (by first | decide | omega) (by first | decide | omega)) rfl (fun t117 g117 k117 e117 => ?_)
          refine gx_incC (i := 3) (a := 16) (b := 8) rfl (fun _ => rfl) l1_3 rfl rfl (fun l18 hl18 ml18 => ?_)
          have l18_0 : en_ld l18 0 = some (gx_r 1) := ml18 0 _ l1_0 rfl
          have l18_1 : en_ld l18 1 = some (.inr (.inl v)) := ml18 1 _ l1_1 rfl
          have l18_4 : en_ld l18 4 = some (.inl (sgM v 16)) := ml18 4 _ hl1 rfl
          refine ex_go (S := (3, l18, [], t117, n, 0)) rfl (fun _ => rfl) rfl ?_
          have hq : fd1 len (sgM v 16) = len + 1 := fd1_y (by first | decide | omega) (by first | decide | omega)
          show en_ex _ _ _ _ _ (fun o => ∃ r, o = .inl r ∧ ∃ t', r = (none, t', n, 0) ∧ ai_HG ah_G t' ∧ ai_hv t' 1 0 = some (.inl (fdv_8 v (fd1 len (sgM v 16)))) ∧ (∀ c i, ¬ ((c = 1 ∧ i = 0) ∨ c = 2) → ai_hv t' c i = ai_hv tb c i))
          rw [hq]
          exact fzC_8 _ _ t117 (by first | decide | omega) g117 k117 (fun c i h => (e117 c i (by first | decide | omega)).trans ((e115 c i (by first | decide | omega)).trans (e0 c i h))) l18_0 l18_1 hl18
theorem fzC_24 {fn : en_F} {n v : Nat} {tb : en_H} (len : Nat) (cl : en_L) (t0 : en_H) (hl : len ≤ 1000) (g0 : ai_HG ah_G t0) (k0 : ai_hv t0 1 0 = some (.inl len)) (e0 : (∀ c i, ¬ ((c = 1 ∧ i = 0) ∨ c = 2) → ai_hv t0 c i = ai_hv tb c i)) (h0 : en_ld cl 0 = some (gx_r 1)) (h1 : en_ld cl 1 = some (.inr (.inl v))) (h3 : en_ld cl 3 = some (.inl 24)) : en_ex none fn (en_code 90) (fun _ => false) (3, cl, [], t0, n, 0) (fun o => ∃ r, o = .inl r ∧ ∃ t', r = (none, t', n, 0) ∧ ai_HG ah_G t' ∧ ai_hv t' 1 0 = some (.inl (fdv_24 v len)) ∧ (∀ c i, ¬ ((c = 1 ∧ i = 0) ∨ c = 2) → ai_hv t' c i = ai_hv tb c i)) := by
  have hg := sgM_le v 24
  refine gx_ld (i := 3) (d := 0) (v := .inl 24) rfl (fun _ => rfl) h3 rfl rfl ?_
  refine ex_go (S := (7, cl, [], t0, n, 0)) rfl (fun _ => rfl) rfl ?_
  refine gx_ld (i := 1) (d := 1) (v := .inr (.inl v)) rfl (fun _ => rfl) h1 rfl rfl ?_
  refine gx_ld (i := 3) (d := 0) (v := .inl 24) rfl (fun _ => rfl) h3 rfl rfl ?_
  refine ex_go (S := (10, cl, [.inr (.inl (en_lshr v 24))], t0, n, 0)) rfl (fun _ => rfl) rfl ?_
  refine ex_go (S := (13, cl, [.inr (.inl 255), .inr (.inl (en_lshr v 24))], t0, n, 0)) rfl (fun _ => rfl) rfl ?_
  refine ex_go (S := (14, cl, [.inr (.inl (en_land (en_lshr v 24) 255))], t0, n, 0)) rfl (fun _ => rfl) rfl ?_
  refine ex_go (S := (15, cl, [.inl ((lN (en_land (en_lshr v 24) 255)).toInt32.toBitVec.toNat)], t0, n, 0)) rfl (fun _ => rfl) rfl ?_
  rw [show (lN (en_land (en_lshr v 24) 255)).toInt32.toBitVec.toNat = sgM v 24 from sgC_M v 24]
  refine gx_sto (i := 4) (d := 0) rfl (fun _ => rfl) rfl rfl (fun l1 hl1 ml1 => ?_)
  have l1_0 : en_ld l1 0 = some (gx_r 1) := ml1 0 _ h0 rfl
  have l1_1 : en_ld l1 1 = some (.inr (.inl v)) := ml1 1 _ h1 rfl
  have l1_3 : en_ld l1 3 = some (.inl 24) := ml1 3 _ h3 rfl
  refine gx_ld (i := 0) (d := 2) (v := gx_r 1) rfl (fun _ => rfl) l1_0 rfl rfl ?_
  refine gxo_get (a := 1) rfl g0 rfl rfl k0 rfl ?_
  refine ex_go (S := (24, l1, [.inl 1000, .inl len], t0, n, 0)) rfl (fun _ => rfl) rfl ?_
  by_cases hc2 : 1000 ≤ len
  · refine gx_2t (c := .ge) rfl (by first | decide | omega) (by first | decide | omega) hc2 rfl ?_
    refine gx_incC (i := 3) (a := 24) (b := 16) rfl (fun _ => rfl) l1_3 rfl rfl (fun l3 hl3 ml3 => ?_)
    have l3_0 : en_ld l3 0 = some (gx_r 1) := ml3 0 _ l1_0 rfl
    have l3_1 : en_ld l3 1 = some (.inr (.inl v)) := ml3 1 _ l1_1 rfl
    have l3_4 : en_ld l3 4 = some (.inl (sgM v 24)) := ml3 4 _ hl1 rfl
    refine ex_go (S := (3, l3, [], t0, n, 0)) rfl (fun _ => rfl) rfl ?_
    have hq : fd1 len (sgM v 24) = len := fd1_n (by first | decide | omega)
    show en_ex _ _ _ _ _ (fun o => ∃ r, o = .inl r ∧ ∃ t', r = (none, t', n, 0) ∧ ai_HG ah_G t' ∧ ai_hv t' 1 0 = some (.inl (fdv_16 v (fd1 len (sgM v 24)))) ∧ (∀ c i, ¬ ((c = 1 ∧ i = 0) ∨ c = 2) → ai_hv t' c i = ai_hv tb c i))
    rw [hq]
    exact fzC_16 _ _ t0 (by first | decide | omega) g0 k0 (fun c i h => e0 c i h) l3_0 l3_1 hl3
  · refine gx_2f (c := .ge) rfl (by first | decide | omega) (by first | decide | omega) hc2 rfl ?_
    refine gx_ld (i := 4) (d := 0) (v := .inl (sgM v 24)) rfl (fun _ => rfl) hl1 rfl rfl ?_
    refine ex_go (S := (31, l1, [.inl 10, .inl (sgM v 24)], t0, n, 0)) rfl (fun _ => rfl) rfl ?_
    by_cases hc4 : sgM v 24 = 10
    · refine gx_2t (c := .eq) rfl (by first | decide | omega) (by first | decide | omega) hc4 rfl ?_
      refine gx_ld (i := 0) (d := 2) (v := gx_r 1) rfl (fun _ => rfl) l1_0 rfl rfl ?_
      refine gxo_ref (a := 1) (c := 2) rfl g0 rfl rfl rfl rfl rfl ?_
      refine gx_ld (i := 0) (d := 2) (v := gx_r 1) rfl (fun _ => rfl) l1_0 rfl rfl ?_
      refine gxo_get (a := 1) rfl g0 rfl rfl k0 rfl ?_
      refine gx_ld (i := 4) (d := 0) (v := .inl (sgM v 24)) rfl (fun _ => rfl) hl1 rfl rfl ?_
      refine gx_i2b rfl rfl (fun z5 z5a z5b => ?_)
      refine gx_apv (d := 2) rfl (fun _ => rfl) g0 rfl rfl (gx_bfit (by first | decide | omega)) (show len < 1000 from by omega) (gx_run1 (show len < 1000 from by omega)) (gx_brh (by first | decide | omega) (by first | decide | omega)) rfl (fun t106 g106 k106 e106 => ?_)
      have k7 : ai_hv t106 1 0 = some (.inl len) := (e106 1 0 (by first | decide | omega)).trans k0
      refine gx_ld (i := 0) (d := 2) (v := gx_r 1) rfl (fun _ => rfl) l1_0 rfl rfl ?_
      refine ex_go (S := (62, l1, [gx_r 1, gx_r 1], t106, n, 0)) rfl (fun _ => rfl) rfl ?_
      refine gxo_get (a := 1) rfl g106 rfl rfl k7 rfl ?_
      refine ex_go (S := (66, l1, [.inl 1, .inl len, gx_r 1], t106, n, 0)) rfl (fun _ => rfl) rfl ?_
      refine ex_iadd rfl (by first | decide | omega) rfl ?_
      refine gxo_put (a := 1) rfl g106 rfl rfl rfl (ai_in_h (by first | decide | omega) (by first | decide | omega) (by first | decide | omega)) rfl (fun t108 g108 k108 e108 => ?_)
      refine gx_incC (i := 3) (a := 24) (b := 16) rfl (fun _ => rfl) l1_3 rfl rfl (fun l9 hl9 ml9 => ?_)
      have l9_0 : en_ld l9 0 = some (gx_r 1) := ml9 0 _ l1_0 rfl
      have l9_1 : en_ld l9 1 = some (.inr (.inl v)) := ml9 1 _ l1_1 rfl
      have l9_4 : en_ld l9 4 = some (.inl (sgM v 24)) := ml9 4 _ hl1 rfl
      refine ex_go (S := (3, l9, [], t108, n, 0)) rfl (fun _ => rfl) rfl ?_
      have hq : fd1 len (sgM v 24) = len + 1 := fd1_y (by first | decide | omega) (by first | decide | omega)
      show en_ex _ _ _ _ _ (fun o => ∃ r, o = .inl r ∧ ∃ t', r = (none, t', n, 0) ∧ ai_HG ah_G t' ∧ ai_hv t' 1 0 = some (.inl (fdv_16 v (fd1 len (sgM v 24)))) ∧ (∀ c i, ¬ ((c = 1 ∧ i = 0) ∨ c = 2) → ai_hv t' c i = ai_hv tb c i))
      rw [hq]
      exact fzC_16 _ _ t108 (by first | decide | omega) g108 k108 (fun c i h => (e108 c i (by first | decide | omega)).trans ((e106 c i (by first | decide | omega)).trans (e0 c i h))) l9_0 l9_1 hl9
    · refine gx_2f (c := .eq) rfl (by first | decide | omega) (by first | decide | omega) hc4 rfl ?_
      refine gx_ld (i := 4) (d := 0) (v := .inl (sgM v 24)) rfl (fun _ => rfl) hl1 rfl rfl ?_
      refine ex_go (S := (38, l1, [.inl 32, .inl (sgM v 24)], t0, n, 0)) rfl (fun _ => rfl) rfl ?_
      by_cases hc10 : sgM v 24 < 32
      · refine gx_2t (c := .lt) rfl (by first | decide | omega) (by first | decide | omega) hc10 rfl ?_
        refine gx_incC (i := 3) (a := 24) (b := 16) rfl (fun _ => rfl) l1_3 rfl rfl (fun l11 hl11 ml11 => ?_)
        have l11_0 : en_ld l11 0 = some (gx_r 1) := ml11 0 _ l1_0 rfl
        have l11_1 : en_ld l11 1 = some (.inr (.inl v)) := ml11 1 _ l1_1 rfl
        have l11_4 : en_ld l11 4 = some (.inl (sgM v 24)) := ml11 4 _ hl1 rfl
        refine ex_go (S := (3, l11, [], t0, n, 0)) rfl (fun _ => rfl) rfl ?_
        have hq : fd1 len (sgM v 24) = len := fd1_n (by first | decide | omega)
        show en_ex _ _ _ _ _ (fun o => ∃ r, o = .inl r ∧ ∃ t', r = (none, t', n, 0) ∧ ai_HG ah_G t' ∧ ai_hv t' 1 0 = some (.inl (fdv_16 v (fd1 len (sgM v 24)))) ∧ (∀ c i, ¬ ((c = 1 ∧ i = 0) ∨ c = 2) → ai_hv t' c i = ai_hv tb c i))
        rw [hq]
        exact fzC_16 _ _ t0 (by first | decide | omega) g0 k0 (fun c i h => e0 c i h) l11_0 l11_1 hl11
      · refine gx_2f (c := .lt) rfl (by first | decide | omega) (by first | decide | omega) hc10 rfl ?_
        refine gx_ld (i := 4) (d := 0) (v := .inl (sgM v 24)) rfl (fun _ => rfl) hl1 rfl rfl ?_
        refine ex_go (S := (45, l1, [.inl 126, .inl (sgM v 24)], t0, n, 0)) rfl (fun _ => rfl) rfl ?_
        by_cases hc12 : 126 < sgM v 24
        · refine gx_2t (c := .gt) rfl (by first | decide | omega) (by first | decide | omega) hc12 rfl ?_
          refine gx_incC (i := 3) (a := 24) (b := 16) rfl (fun _ => rfl) l1_3 rfl rfl (fun l13 hl13 ml13 => ?_)
          have l13_0 : en_ld l13 0 = some (gx_r 1) := ml13 0 _ l1_0 rfl
          have l13_1 : en_ld l13 1 = some (.inr (.inl v)) := ml13 1 _ l1_1 rfl
          have l13_4 : en_ld l13 4 = some (.inl (sgM v 24)) := ml13 4 _ hl1 rfl
          refine ex_go (S := (3, l13, [], t0, n, 0)) rfl (fun _ => rfl) rfl ?_
          have hq : fd1 len (sgM v 24) = len := fd1_n (by first | decide | omega)
          show en_ex _ _ _ _ _ (fun o => ∃ r, o = .inl r ∧ ∃ t', r = (none, t', n, 0) ∧ ai_HG ah_G t' ∧ ai_hv t' 1 0 = some (.inl (fdv_16 v (fd1 len (sgM v 24)))) ∧ (∀ c i, ¬ ((c = 1 ∧ i = 0) ∨ c = 2) → ai_hv t' c i = ai_hv tb c i))
          rw [hq]
          exact fzC_16 _ _ t0 (by first | decide | omega) g0 k0 (fun c i h => e0 c i h) l13_0 l13_1 hl13
        · refine gx_2f (c := .gt) rfl (by first | decide | omega) (by first | decide | omega) hc12 rfl ?_
          refine gx_ld (i := 0) (d := 2) (v := gx_r 1) rfl (fun _ => rfl) l1_0 rfl rfl ?_
          refine gxo_ref (a := 1) (c := 2) rfl g0 rfl rfl rfl rfl rfl ?_
          refine gx_ld (i := 0) (d := 2) (v := gx_r 1) rfl (fun _ => rfl) l1_0 rfl rfl ?_
          refine gxo_get (a := 1) rfl g0 rfl rfl k0 rfl ?_
          refine gx_ld (i := 4) (d := 0) (v := .inl (sgM v 24)) rfl (fun _ => rfl) hl1 rfl rfl ?_
          refine gx_i2b rfl rfl (fun z14 z14a z14b => ?_)
          refine gx_apv (d := 2) rfl (fun _ => rfl) g0 rfl rfl (gx_bfit (by first | decide | omega)) (show len < 1000 from by omega) (gx_run1 (show len < 1000 from by omega)) (gx_brh (by first | decide | omega) (by first | decide | omega)) rfl (fun t115 g115 k115 e115 => ?_)
          have k16 : ai_hv t115 1 0 = some (.inl len) := (e115 1 0 (by first | decide | omega)).trans k0
          refine gx_ld (i := 0) (d := 2) (v := gx_r 1) rfl (fun _ => rfl) l1_0 rfl rfl ?_
          refine ex_go (S := (62, l1, [gx_r 1, gx_r 1], t115, n, 0)) rfl (fun _ => rfl) rfl ?_
          refine gxo_get (a := 1) rfl g115 rfl rfl k16 rfl ?_
          refine ex_go (S := (66, l1, [.inl 1, .inl len, gx_r 1], t115, n, 0)) rfl (fun _ => rfl) rfl ?_
          refine ex_iadd rfl (by first | decide | omega) rfl ?_
          refine gxo_put (a := 1) rfl g115 rfl rfl rfl (ai_in_h (by first | decide | omega) (by first | decide | omega) (by first | decide | omega)) rfl (fun t117 g117 k117 e117 => ?_)
          refine gx_incC (i := 3) (a := 24) (b := 16) rfl (fun _ => rfl) l1_3 rfl rfl (fun l18 hl18 ml18 => ?_)
          have l18_0 : en_ld l18 0 = some (gx_r 1) := ml18 0 _ l1_0 rfl
          have l18_1 : en_ld l18 1 = some (.inr (.inl v)) := ml18 1 _ l1_1 rfl
          have l18_4 : en_ld l18 4 = some (.inl (sgM v 24)) := ml18 4 _ hl1 rfl
          refine ex_go (S := (3, l18, [], t117, n, 0)) rfl (fun _ => rfl) rfl ?_
          have hq : fd1 len (sgM v 24) = len + 1 := fd1_y (by first | decide | omega) (by first | decide | omega)
          show en_ex _ _ _ _ _ (fun o => ∃ r, o = .inl r ∧ ∃ t', r = (none, t', n, 0) ∧ ai_HG ah_G t' ∧ ai_hv t' 1 0 = some (.inl (fdv_16 v (fd1 len (sgM v 24)))) ∧ (∀ c i, ¬ ((c = 1 ∧ i = 0) ∨ c = 2) → ai_hv t' c i = ai_hv tb c i))
          rw [hq]
          exact fzC_16 _ _ t117 (by first | decide | omega) g117 k117 (fun c i h => (e117 c i (by first | decide | omega)).trans ((e115 c i (by first | decide | omega)).trans (e0 c i h))) l18_0 l18_1 hl18
theorem fzC_32 {fn : en_F} {n v : Nat} {tb : en_H} (len : Nat) (cl : en_L) (t0 : en_H) (hl : len ≤ 1000) (g0 : ai_HG ah_G t0) (k0 : ai_hv t0 1 0 = some (.inl len)) (e0 : (∀ c i, ¬ ((c = 1 ∧ i = 0) ∨ c = 2) → ai_hv t0 c i = ai_hv tb c i)) (h0 : en_ld cl 0 = some (gx_r 1)) (h1 : en_ld cl 1 = some (.inr (.inl v))) (h3 : en_ld cl 3 = some (.inl 32)) : en_ex none fn (en_code 90) (fun _ => false) (3, cl, [], t0, n, 0) (fun o => ∃ r, o = .inl r ∧ ∃ t', r = (none, t', n, 0) ∧ ai_HG ah_G t' ∧ ai_hv t' 1 0 = some (.inl (fdv_32 v len)) ∧ (∀ c i, ¬ ((c = 1 ∧ i = 0) ∨ c = 2) → ai_hv t' c i = ai_hv tb c i)) := by
  have hg := sgM_le v 32
  refine gx_ld (i := 3) (d := 0) (v := .inl 32) rfl (fun _ => rfl) h3 rfl rfl ?_
  refine ex_go (S := (7, cl, [], t0, n, 0)) rfl (fun _ => rfl) rfl ?_
  refine gx_ld (i := 1) (d := 1) (v := .inr (.inl v)) rfl (fun _ => rfl) h1 rfl rfl ?_
  refine gx_ld (i := 3) (d := 0) (v := .inl 32) rfl (fun _ => rfl) h3 rfl rfl ?_
  refine ex_go (S := (10, cl, [.inr (.inl (en_lshr v 32))], t0, n, 0)) rfl (fun _ => rfl) rfl ?_
  refine ex_go (S := (13, cl, [.inr (.inl 255), .inr (.inl (en_lshr v 32))], t0, n, 0)) rfl (fun _ => rfl) rfl ?_
  refine ex_go (S := (14, cl, [.inr (.inl (en_land (en_lshr v 32) 255))], t0, n, 0)) rfl (fun _ => rfl) rfl ?_
  refine ex_go (S := (15, cl, [.inl ((lN (en_land (en_lshr v 32) 255)).toInt32.toBitVec.toNat)], t0, n, 0)) rfl (fun _ => rfl) rfl ?_
  rw [show (lN (en_land (en_lshr v 32) 255)).toInt32.toBitVec.toNat = sgM v 32 from sgC_M v 32]
  refine gx_sto (i := 4) (d := 0) rfl (fun _ => rfl) rfl rfl (fun l1 hl1 ml1 => ?_)
  have l1_0 : en_ld l1 0 = some (gx_r 1) := ml1 0 _ h0 rfl
  have l1_1 : en_ld l1 1 = some (.inr (.inl v)) := ml1 1 _ h1 rfl
  have l1_3 : en_ld l1 3 = some (.inl 32) := ml1 3 _ h3 rfl
  refine gx_ld (i := 0) (d := 2) (v := gx_r 1) rfl (fun _ => rfl) l1_0 rfl rfl ?_
  refine gxo_get (a := 1) rfl g0 rfl rfl k0 rfl ?_
  refine ex_go (S := (24, l1, [.inl 1000, .inl len], t0, n, 0)) rfl (fun _ => rfl) rfl ?_
  by_cases hc2 : 1000 ≤ len
  · refine gx_2t (c := .ge) rfl (by first | decide | omega) (by first | decide | omega) hc2 rfl ?_
    refine gx_incC (i := 3) (a := 32) (b := 24) rfl (fun _ => rfl) l1_3 rfl rfl (fun l3 hl3 ml3 => ?_)
    have l3_0 : en_ld l3 0 = some (gx_r 1) := ml3 0 _ l1_0 rfl
    have l3_1 : en_ld l3 1 = some (.inr (.inl v)) := ml3 1 _ l1_1 rfl
    have l3_4 : en_ld l3 4 = some (.inl (sgM v 32)) := ml3 4 _ hl1 rfl
    refine ex_go (S := (3, l3, [], t0, n, 0)) rfl (fun _ => rfl) rfl ?_
    have hq : fd1 len (sgM v 32) = len := fd1_n (by first | decide | omega)
    show en_ex _ _ _ _ _ (fun o => ∃ r, o = .inl r ∧ ∃ t', r = (none, t', n, 0) ∧ ai_HG ah_G t' ∧ ai_hv t' 1 0 = some (.inl (fdv_24 v (fd1 len (sgM v 32)))) ∧ (∀ c i, ¬ ((c = 1 ∧ i = 0) ∨ c = 2) → ai_hv t' c i = ai_hv tb c i))
    rw [hq]
    exact fzC_24 _ _ t0 (by first | decide | omega) g0 k0 (fun c i h => e0 c i h) l3_0 l3_1 hl3
  · refine gx_2f (c := .ge) rfl (by first | decide | omega) (by first | decide | omega) hc2 rfl ?_
    refine gx_ld (i := 4) (d := 0) (v := .inl (sgM v 32)) rfl (fun _ => rfl) hl1 rfl rfl ?_
    refine ex_go (S := (31, l1, [.inl 10, .inl (sgM v 32)], t0, n, 0)) rfl (fun _ => rfl) rfl ?_
    by_cases hc4 : sgM v 32 = 10
    · refine gx_2t (c := .eq) rfl (by first | decide | omega) (by first | decide | omega) hc4 rfl ?_
      refine gx_ld (i := 0) (d := 2) (v := gx_r 1) rfl (fun _ => rfl) l1_0 rfl rfl ?_
      refine gxo_ref (a := 1) (c := 2) rfl g0 rfl rfl rfl rfl rfl ?_
      refine gx_ld (i := 0) (d := 2) (v := gx_r 1) rfl (fun _ => rfl) l1_0 rfl rfl ?_
      refine gxo_get (a := 1) rfl g0 rfl rfl k0 rfl ?_
      refine gx_ld (i := 4) (d := 0) (v := .inl (sgM v 32)) rfl (fun _ => rfl) hl1 rfl rfl ?_
      refine gx_i2b rfl rfl (fun z5 z5a z5b => ?_)
      refine gx_apv (d := 2) rfl (fun _ => rfl) g0 rfl rfl (gx_bfit (by first | decide | omega)) (show len < 1000 from by omega) (gx_run1 (show len < 1000 from by omega)) (gx_brh (by first | decide | omega) (by first | decide | omega)) rfl (fun t106 g106 k106 e106 => ?_)
      have k7 : ai_hv t106 1 0 = some (.inl len) := (e106 1 0 (by first | decide | omega)).trans k0
      refine gx_ld (i := 0) (d := 2) (v := gx_r 1) rfl (fun _ => rfl) l1_0 rfl rfl ?_
      refine ex_go (S := (62, l1, [gx_r 1, gx_r 1], t106, n, 0)) rfl (fun _ => rfl) rfl ?_
      refine gxo_get (a := 1) rfl g106 rfl rfl k7 rfl ?_
      refine ex_go (S := (66, l1, [.inl 1, .inl len, gx_r 1], t106, n, 0)) rfl (fun _ => rfl) rfl ?_
      refine ex_iadd rfl (by first | decide | omega) rfl ?_
      refine gxo_put (a := 1) rfl g106 rfl rfl rfl (ai_in_h (by first | decide | omega) (by first | decide | omega) (by first | decide | omega)) rfl (fun t108 g108 k108 e108 => ?_)
      refine gx_incC (i := 3) (a := 32) (b := 24) rfl (fun _ => rfl) l1_3 rfl rfl (fun l9 hl9 ml9 => ?_)
      have l9_0 : en_ld l9 0 = some (gx_r 1) := ml9 0 _ l1_0 rfl
      have l9_1 : en_ld l9 1 = some (.inr (.inl v)) := ml9 1 _ l1_1 rfl
      have l9_4 : en_ld l9 4 = some (.inl (sgM v 32)) := ml9 4 _ hl1 rfl
      refine ex_go (S := (3, l9, [], t108, n, 0)) rfl (fun _ => rfl) rfl ?_
      have hq : fd1 len (sgM v 32) = len + 1 := fd1_y (by first | decide | omega) (by first | decide | omega)
      show en_ex _ _ _ _ _ (fun o => ∃ r, o = .inl r ∧ ∃ t', r = (none, t', n, 0) ∧ ai_HG ah_G t' ∧ ai_hv t' 1 0 = some (.inl (fdv_24 v (fd1 len (sgM v 32)))) ∧ (∀ c i, ¬ ((c = 1 ∧ i = 0) ∨ c = 2) → ai_hv t' c i = ai_hv tb c i))
      rw [hq]
      exact fzC_24 _ _ t108 (by first | decide | omega) g108 k108 (fun c i h => (e108 c i (by first | decide | omega)).trans ((e106 c i (by first | decide | omega)).trans (e0 c i h))) l9_0 l9_1 hl9
    · refine gx_2f (c := .eq) rfl (by first | decide | omega) (by first | decide | omega) hc4 rfl ?_
      refine gx_ld (i := 4) (d := 0) (v := .inl (sgM v 32)) rfl (fun _ => rfl) hl1 rfl rfl ?_
      refine ex_go (S := (38, l1, [.inl 32, .inl (sgM v 32)], t0, n, 0)) rfl (fun _ => rfl) rfl ?_
      by_cases hc10 : sgM v 32 < 32
      · refine gx_2t (c := .lt) rfl (by first | decide | omega) (by first | decide | omega) hc10 rfl ?_
        refine gx_incC (i := 3) (a := 32) (b := 24) rfl (fun _ => rfl) l1_3 rfl rfl (fun l11 hl11 ml11 => ?_)
        have l11_0 : en_ld l11 0 = some (gx_r 1) := ml11 0 _ l1_0 rfl
        have l11_1 : en_ld l11 1 = some (.inr (.inl v)) := ml11 1 _ l1_1 rfl
        have l11_4 : en_ld l11 4 = some (.inl (sgM v 32)) := ml11 4 _ hl1 rfl
        refine ex_go (S := (3, l11, [], t0, n, 0)) rfl (fun _ => rfl) rfl ?_
        have hq : fd1 len (sgM v 32) = len := fd1_n (by first | decide | omega)
        show en_ex _ _ _ _ _ (fun o => ∃ r, o = .inl r ∧ ∃ t', r = (none, t', n, 0) ∧ ai_HG ah_G t' ∧ ai_hv t' 1 0 = some (.inl (fdv_24 v (fd1 len (sgM v 32)))) ∧ (∀ c i, ¬ ((c = 1 ∧ i = 0) ∨ c = 2) → ai_hv t' c i = ai_hv tb c i))
        rw [hq]
        exact fzC_24 _ _ t0 (by first | decide | omega) g0 k0 (fun c i h => e0 c i h) l11_0 l11_1 hl11
      · refine gx_2f (c := .lt) rfl (by first | decide | omega) (by first | decide | omega) hc10 rfl ?_
        refine gx_ld (i := 4) (d := 0) (v := .inl (sgM v 32)) rfl (fun _ => rfl) hl1 rfl rfl ?_
        refine ex_go (S := (45, l1, [.inl 126, .inl (sgM v 32)], t0, n, 0)) rfl (fun _ => rfl) rfl ?_
        by_cases hc12 : 126 < sgM v 32
        · refine gx_2t (c := .gt) rfl (by first | decide | omega) (by first | decide | omega) hc12 rfl ?_
          refine gx_incC (i := 3) (a := 32) (b := 24) rfl (fun _ => rfl) l1_3 rfl rfl (fun l13 hl13 ml13 => ?_)
          have l13_0 : en_ld l13 0 = some (gx_r 1) := ml13 0 _ l1_0 rfl
          have l13_1 : en_ld l13 1 = some (.inr (.inl v)) := ml13 1 _ l1_1 rfl
          have l13_4 : en_ld l13 4 = some (.inl (sgM v 32)) := ml13 4 _ hl1 rfl
          refine ex_go (S := (3, l13, [], t0, n, 0)) rfl (fun _ => rfl) rfl ?_
          have hq : fd1 len (sgM v 32) = len := fd1_n (by first | decide | omega)
          show en_ex _ _ _ _ _ (fun o => ∃ r, o = .inl r ∧ ∃ t', r = (none, t', n, 0) ∧ ai_HG ah_G t' ∧ ai_hv t' 1 0 = some (.inl (fdv_24 v (fd1 len (sgM v 32)))) ∧ (∀ c i, ¬ ((c = 1 ∧ i = 0) ∨ c = 2) → ai_hv t' c i = ai_hv tb c i))
          rw [hq]
          exact fzC_24 _ _ t0 (by first | decide | omega) g0 k0 (fun c i h => e0 c i h) l13_0 l13_1 hl13
        · refine gx_2f (c := .gt) rfl (by first | decide | omega) (by first | decide | omega) hc12 rfl ?_
          refine gx_ld (i := 0) (d := 2) (v := gx_r 1) rfl (fun _ => rfl) l1_0 rfl rfl ?_
          refine gxo_ref (a := 1) (c := 2) rfl g0 rfl rfl rfl rfl rfl ?_
          refine gx_ld (i := 0) (d := 2) (v := gx_r 1) rfl (fun _ => rfl) l1_0 rfl rfl ?_
          refine gxo_get (a := 1) rfl g0 rfl rfl k0 rfl ?_
          refine gx_ld (i := 4) (d := 0) (v := .inl (sgM v 32)) rfl (fun _ => rfl) hl1 rfl rfl ?_
          refine gx_i2b rfl rfl (fun z14 z14a z14b => ?_)
          refine gx_apv (d := 2) rfl (fun _ => rfl) g0 rfl rfl (gx_bfit (by first | decide | omega)) (show len < 1000 from by omega) (gx_run1 (show len < 1000 from by omega)) (gx_brh (by first | decide | omega) (by first | decide | omega)) rfl (fun t115 g115 k115 e115 => ?_)
          have k16 : ai_hv t115 1 0 = some (.inl len) := (e115 1 0 (by first | decide | omega)).trans k0
          refine gx_ld (i := 0) (d := 2) (v := gx_r 1) rfl (fun _ => rfl) l1_0 rfl rfl ?_
          refine ex_go (S := (62, l1, [gx_r 1, gx_r 1], t115, n, 0)) rfl (fun _ => rfl) rfl ?_
          refine gxo_get (a := 1) rfl g115 rfl rfl k16 rfl ?_
          refine ex_go (S := (66, l1, [.inl 1, .inl len, gx_r 1], t115, n, 0)) rfl (fun _ => rfl) rfl ?_
          refine ex_iadd rfl (by first | decide | omega) rfl ?_
          refine gxo_put (a := 1) rfl g115 rfl rfl rfl (ai_in_h (by first | decide | omega) (by first | decide | omega) (by first | decide | omega)) rfl (fun t117 g117 k117 e117 => ?_)
          refine gx_incC (i := 3) (a := 32) (b := 24) rfl (fun _ => rfl) l1_3 rfl rfl (fun l18 hl18 ml18 => ?_)
          have l18_0 : en_ld l18 0 = some (gx_r 1) := ml18 0 _ l1_0 rfl
          have l18_1 : en_ld l18 1 = some (.inr (.inl v)) := ml18 1 _ l1_1 rfl
          have l18_4 : en_ld l18 4 = some (.inl (sgM v 32)) := ml18 4 _ hl1 rfl
          refine ex_go (S := (3, l18, [], t117, n, 0)) rfl (fun _ => rfl) rfl ?_
          have hq : fd1 len (sgM v 32) = len + 1 := fd1_y (by first | decide | omega) (by first | decide | omega)
          show en_ex _ _ _ _ _ (fun o => ∃ r, o = .inl r ∧ ∃ t', r = (none, t', n, 0) ∧ ai_HG ah_G t' ∧ ai_hv t' 1 0 = some (.inl (fdv_24 v (fd1 len (sgM v 32)))) ∧ (∀ c i, ¬ ((c = 1 ∧ i = 0) ∨ c = 2) → ai_hv t' c i = ai_hv tb c i))
          rw [hq]
          exact fzC_24 _ _ t117 (by first | decide | omega) g117 k117 (fun c i h => (e117 c i (by first | decide | omega)).trans ((e115 c i (by first | decide | omega)).trans (e0 c i h))) l18_0 l18_1 hl18
theorem fzC_40 {fn : en_F} {n v : Nat} {tb : en_H} (len : Nat) (cl : en_L) (t0 : en_H) (hl : len ≤ 1000) (g0 : ai_HG ah_G t0) (k0 : ai_hv t0 1 0 = some (.inl len)) (e0 : (∀ c i, ¬ ((c = 1 ∧ i = 0) ∨ c = 2) → ai_hv t0 c i = ai_hv tb c i)) (h0 : en_ld cl 0 = some (gx_r 1)) (h1 : en_ld cl 1 = some (.inr (.inl v))) (h3 : en_ld cl 3 = some (.inl 40)) : en_ex none fn (en_code 90) (fun _ => false) (3, cl, [], t0, n, 0) (fun o => ∃ r, o = .inl r ∧ ∃ t', r = (none, t', n, 0) ∧ ai_HG ah_G t' ∧ ai_hv t' 1 0 = some (.inl (fdv_40 v len)) ∧ (∀ c i, ¬ ((c = 1 ∧ i = 0) ∨ c = 2) → ai_hv t' c i = ai_hv tb c i)) := by
  have hg := sgM_le v 40
  refine gx_ld (i := 3) (d := 0) (v := .inl 40) rfl (fun _ => rfl) h3 rfl rfl ?_
  refine ex_go (S := (7, cl, [], t0, n, 0)) rfl (fun _ => rfl) rfl ?_
  refine gx_ld (i := 1) (d := 1) (v := .inr (.inl v)) rfl (fun _ => rfl) h1 rfl rfl ?_
  refine gx_ld (i := 3) (d := 0) (v := .inl 40) rfl (fun _ => rfl) h3 rfl rfl ?_
  refine ex_go (S := (10, cl, [.inr (.inl (en_lshr v 40))], t0, n, 0)) rfl (fun _ => rfl) rfl ?_
  refine ex_go (S := (13, cl, [.inr (.inl 255), .inr (.inl (en_lshr v 40))], t0, n, 0)) rfl (fun _ => rfl) rfl ?_
  refine ex_go (S := (14, cl, [.inr (.inl (en_land (en_lshr v 40) 255))], t0, n, 0)) rfl (fun _ => rfl) rfl ?_
  refine ex_go (S := (15, cl, [.inl ((lN (en_land (en_lshr v 40) 255)).toInt32.toBitVec.toNat)], t0, n, 0)) rfl (fun _ => rfl) rfl ?_
  rw [show (lN (en_land (en_lshr v 40) 255)).toInt32.toBitVec.toNat = sgM v 40 from sgC_M v 40]
  refine gx_sto (i := 4) (d := 0) rfl (fun _ => rfl) rfl rfl (fun l1 hl1 ml1 => ?_)
  have l1_0 : en_ld l1 0 = some (gx_r 1) := ml1 0 _ h0 rfl
  have l1_1 : en_ld l1 1 = some (.inr (.inl v)) := ml1 1 _ h1 rfl
  have l1_3 : en_ld l1 3 = some (.inl 40) := ml1 3 _ h3 rfl
  refine gx_ld (i := 0) (d := 2) (v := gx_r 1) rfl (fun _ => rfl) l1_0 rfl rfl ?_
  refine gxo_get (a := 1) rfl g0 rfl rfl k0 rfl ?_
  refine ex_go (S := (24, l1, [.inl 1000, .inl len], t0, n, 0)) rfl (fun _ => rfl) rfl ?_
  by_cases hc2 : 1000 ≤ len
  · refine gx_2t (c := .ge) rfl (by first | decide | omega) (by first | decide | omega) hc2 rfl ?_
    refine gx_incC (i := 3) (a := 40) (b := 32) rfl (fun _ => rfl) l1_3 rfl rfl (fun l3 hl3 ml3 => ?_)
    have l3_0 : en_ld l3 0 = some (gx_r 1) := ml3 0 _ l1_0 rfl
    have l3_1 : en_ld l3 1 = some (.inr (.inl v)) := ml3 1 _ l1_1 rfl
    have l3_4 : en_ld l3 4 = some (.inl (sgM v 40)) := ml3 4 _ hl1 rfl
    refine ex_go (S := (3, l3, [], t0, n, 0)) rfl (fun _ => rfl) rfl ?_
    have hq : fd1 len (sgM v 40) = len := fd1_n (by first | decide | omega)
    show en_ex _ _ _ _ _ (fun o => ∃ r, o = .inl r ∧ ∃ t', r = (none, t', n, 0) ∧ ai_HG ah_G t' ∧ ai_hv t' 1 0 = some (.inl (fdv_32 v (fd1 len (sgM v 40)))) ∧ (∀ c i, ¬ ((c = 1 ∧ i = 0) ∨ c = 2) → ai_hv t' c i = ai_hv tb c i))
    rw [hq]
    exact fzC_32 _ _ t0 (by first | decide | omega) g0 k0 (fun c i h => e0 c i h) l3_0 l3_1 hl3
  · refine gx_2f (c := .ge) rfl (by first | decide | omega) (by first | decide | omega) hc2 rfl ?_
    refine gx_ld (i := 4) (d := 0) (v := .inl (sgM v 40)) rfl (fun _ => rfl) hl1 rfl rfl ?_
    refine ex_go (S := (31, l1, [.inl 10, .inl (sgM v 40)], t0, n, 0)) rfl (fun _ => rfl) rfl ?_
    by_cases hc4 : sgM v 40 = 10
    · refine gx_2t (c := .eq) rfl (by first | decide | omega) (by first | decide | omega) hc4 rfl ?_
      refine gx_ld (i := 0) (d := 2) (v := gx_r 1) rfl (fun _ => rfl) l1_0 rfl rfl ?_
      refine gxo_ref (a := 1) (c := 2) rfl g0 rfl rfl rfl rfl rfl ?_
      refine gx_ld (i := 0) (d := 2) (v := gx_r 1) rfl (fun _ => rfl) l1_0 rfl rfl ?_
      refine gxo_get (a := 1) rfl g0 rfl rfl k0 rfl ?_
      refine gx_ld (i := 4) (d := 0) (v := .inl (sgM v 40)) rfl (fun _ => rfl) hl1 rfl rfl ?_
      refine gx_i2b rfl rfl (fun z5 z5a z5b => ?_)
      refine gx_apv (d := 2) rfl (fun _ => rfl) g0 rfl rfl (gx_bfit (by first | decide | omega)) (show len < 1000 from by omega) (gx_run1 (show len < 1000 from by omega)) (gx_brh (by first | decide | omega) (by first | decide | omega)) rfl (fun t106 g106 k106 e106 => ?_)
      have k7 : ai_hv t106 1 0 = some (.inl len) := (e106 1 0 (by first | decide | omega)).trans k0
      refine gx_ld (i := 0) (d := 2) (v := gx_r 1) rfl (fun _ => rfl) l1_0 rfl rfl ?_
      refine ex_go (S := (62, l1, [gx_r 1, gx_r 1], t106, n, 0)) rfl (fun _ => rfl) rfl ?_
      refine gxo_get (a := 1) rfl g106 rfl rfl k7 rfl ?_
      refine ex_go (S := (66, l1, [.inl 1, .inl len, gx_r 1], t106, n, 0)) rfl (fun _ => rfl) rfl ?_
      refine ex_iadd rfl (by first | decide | omega) rfl ?_
      refine gxo_put (a := 1) rfl g106 rfl rfl rfl (ai_in_h (by first | decide | omega) (by first | decide | omega) (by first | decide | omega)) rfl (fun t108 g108 k108 e108 => ?_)
      refine gx_incC (i := 3) (a := 40) (b := 32) rfl (fun _ => rfl) l1_3 rfl rfl (fun l9 hl9 ml9 => ?_)
      have l9_0 : en_ld l9 0 = some (gx_r 1) := ml9 0 _ l1_0 rfl
      have l9_1 : en_ld l9 1 = some (.inr (.inl v)) := ml9 1 _ l1_1 rfl
      have l9_4 : en_ld l9 4 = some (.inl (sgM v 40)) := ml9 4 _ hl1 rfl
      refine ex_go (S := (3, l9, [], t108, n, 0)) rfl (fun _ => rfl) rfl ?_
      have hq : fd1 len (sgM v 40) = len + 1 := fd1_y (by first | decide | omega) (by first | decide | omega)
      show en_ex _ _ _ _ _ (fun o => ∃ r, o = .inl r ∧ ∃ t', r = (none, t', n, 0) ∧ ai_HG ah_G t' ∧ ai_hv t' 1 0 = some (.inl (fdv_32 v (fd1 len (sgM v 40)))) ∧ (∀ c i, ¬ ((c = 1 ∧ i = 0) ∨ c = 2) → ai_hv t' c i = ai_hv tb c i))
      rw [hq]
      exact fzC_32 _ _ t108 (by first | decide | omega) g108 k108 (fun c i h => (e108 c i (by first | decide | omega)).trans ((e106 c i (by first | decide | omega)).trans (e0 c i h))) l9_0 l9_1 hl9
    · refine gx_2f (c := .eq) rfl (by first | decide | omega) (by first | decide | omega) hc4 rfl ?_
      refine gx_ld (i := 4) (d := 0) (v := .inl (sgM v 40)) rfl (fun _ => rfl) hl1 rfl rfl ?_
      refine ex_go (S := (38, l1, [.inl 32, .inl (sgM v 40)], t0, n, 0)) rfl (fun _ => rfl) rfl ?_
      by_cases hc10 : sgM v 40 < 32
      · refine gx_2t (c := .lt) rfl (by first | decide | omega) (by first | decide | omega) hc10 rfl ?_
        refine gx_incC (i := 3) (a := 40) (b := 32) rfl (fun _ => rfl) l1_3 rfl rfl (fun l11 hl11 ml11 => ?_)
        have l11_0 : en_ld l11 0 = some (gx_r 1) := ml11 0 _ l1_0 rfl
        have l11_1 : en_ld l11 1 = some (.inr (.inl v)) := ml11 1 _ l1_1 rfl
        have l11_4 : en_ld l11 4 = some (.inl (sgM v 40)) := ml11 4 _ hl1 rfl
        refine ex_go (S := (3, l11, [], t0, n, 0)) rfl (fun _ => rfl) rfl ?_
        have hq : fd1 len (sgM v 40) = len := fd1_n (by first | decide | omega)
        show en_ex _ _ _ _ _ (fun o => ∃ r, o = .inl r ∧ ∃ t', r = (none, t', n, 0) ∧ ai_HG ah_G t' ∧ ai_hv t' 1 0 = some (.inl (fdv_32 v (fd1 len (sgM v 40)))) ∧ (∀ c i, ¬ ((c = 1 ∧ i = 0) ∨ c = 2) → ai_hv t' c i = ai_hv tb c i))
        rw [hq]
        exact fzC_32 _ _ t0 (by first | decide | omega) g0 k0 (fun c i h => e0 c i h) l11_0 l11_1 hl11
      · refine gx_2f (c := .lt) rfl (by first | decide | omega) (by first | decide | omega) hc10 rfl ?_
        refine gx_ld (i := 4) (d := 0) (v := .inl (sgM v 40)) rfl (fun _ => rfl) hl1 rfl rfl ?_
        refine ex_go (S := (45, l1, [.inl 126, .inl (sgM v 40)], t0, n, 0)) rfl (fun _ => rfl) rfl ?_
        by_cases hc12 : 126 < sgM v 40
        · refine gx_2t (c := .gt) rfl (by first | decide | omega) (by first | decide | omega) hc12 rfl ?_
          refine gx_incC (i := 3) (a := 40) (b := 32) rfl (fun _ => rfl) l1_3 rfl rfl (fun l13 hl13 ml13 => ?_)
          have l13_0 : en_ld l13 0 = some (gx_r 1) := ml13 0 _ l1_0 rfl
          have l13_1 : en_ld l13 1 = some (.inr (.inl v)) := ml13 1 _ l1_1 rfl
          have l13_4 : en_ld l13 4 = some (.inl (sgM v 40)) := ml13 4 _ hl1 rfl
          refine ex_go (S := (3, l13, [], t0, n, 0)) rfl (fun _ => rfl) rfl ?_
          have hq : fd1 len (sgM v 40) = len := fd1_n (by first | decide | omega)
          show en_ex _ _ _ _ _ (fun o => ∃ r, o = .inl r ∧ ∃ t', r = (none, t', n, 0) ∧ ai_HG ah_G t' ∧ ai_hv t' 1 0 = some (.inl (fdv_32 v (fd1 len (sgM v 40)))) ∧ (∀ c i, ¬ ((c = 1 ∧ i = 0) ∨ c = 2) → ai_hv t' c i = ai_hv tb c i))
          rw [hq]
          exact fzC_32 _ _ t0 (by first | decide | omega) g0 k0 (fun c i h => e0 c i h) l13_0 l13_1 hl13
        · refine gx_2f (c := .gt) rfl (by first | decide | omega) (by first | decide | omega) hc12 rfl ?_
          refine gx_ld (i := 0) (d := 2) (v := gx_r 1) rfl (fun _ => rfl) l1_0 rfl rfl ?_
          refine gxo_ref (a := 1) (c := 2) rfl g0 rfl rfl rfl rfl rfl ?_
          refine gx_ld (i := 0) (d := 2) (v := gx_r 1) rfl (fun _ => rfl) l1_0 rfl rfl ?_
          refine gxo_get (a := 1) rfl g0 rfl rfl k0 rfl ?_
          refine gx_ld (i := 4) (d := 0) (v := .inl (sgM v 40)) rfl (fun _ => rfl) hl1 rfl rfl ?_
          refine gx_i2b rfl rfl (fun z14 z14a z14b => ?_)
          refine gx_apv (d := 2) rfl (fun _ => rfl) g0 rfl rfl (gx_bfit (by first | decide | omega)) (show len < 1000 from by omega) (gx_run1 (show len < 1000 from by omega)) (gx_brh (by first | decide | omega) (by first | decide | omega)) rfl (fun t115 g115 k115 e115 => ?_)
          have k16 : ai_hv t115 1 0 = some (.inl len) := (e115 1 0 (by first | decide | omega)).trans k0
          refine gx_ld (i := 0) (d := 2) (v := gx_r 1) rfl (fun _ => rfl) l1_0 rfl rfl ?_
          refine ex_go (S := (62, l1, [gx_r 1, gx_r 1], t115, n, 0)) rfl (fun _ => rfl) rfl ?_
          refine gxo_get (a := 1) rfl g115 rfl rfl k16 rfl ?_
          refine ex_go (S := (66, l1, [.inl 1, .inl len, gx_r 1], t115, n, 0)) rfl (fun _ => rfl) rfl ?_
          refine ex_iadd rfl (by first | decide | omega) rfl ?_
          refine gxo_put (a := 1) rfl g115 rfl rfl rfl (ai_in_h (by first | decide | omega) (by first | decide | omega) (by first | decide | omega)) rfl (fun t117 g117 k117 e117 => ?_)
          refine gx_incC (i := 3) (a := 40) (b := 32) rfl (fun _ => rfl) l1_3 rfl rfl (fun l18 hl18 ml18 => ?_)
          have l18_0 : en_ld l18 0 = some (gx_r 1) := ml18 0 _ l1_0 rfl
          have l18_1 : en_ld l18 1 = some (.inr (.inl v)) := ml18 1 _ l1_1 rfl
          have l18_4 : en_ld l18 4 = some (.inl (sgM v 40)) := ml18 4 _ hl1 rfl
          refine ex_go (S := (3, l18, [], t117, n, 0)) rfl (fun _ => rfl) rfl ?_
          have hq : fd1 len (sgM v 40) = len + 1 := fd1_y (by first | decide | omega) (by first | decide | omega)
          show en_ex _ _ _ _ _ (fun o => ∃ r, o = .inl r ∧ ∃ t', r = (none, t', n, 0) ∧ ai_HG ah_G t' ∧ ai_hv t' 1 0 = some (.inl (fdv_32 v (fd1 len (sgM v 40)))) ∧ (∀ c i, ¬ ((c = 1 ∧ i = 0) ∨ c = 2) → ai_hv t' c i = ai_hv tb c i))
          rw [hq]
          exact fzC_32 _ _ t117 (by first | decide | omega) g117 k117 (fun c i h => (e117 c i (by first | decide | omega)).trans ((e115 c i (by first | decide | omega)).trans (e0 c i h))) l18_0 l18_1 hl18
theorem fzC_48 {fn : en_F} {n v : Nat} {tb : en_H} (len : Nat) (cl : en_L) (t0 : en_H) (hl : len ≤ 1000) (g0 : ai_HG ah_G t0) (k0 : ai_hv t0 1 0 = some (.inl len)) (e0 : (∀ c i, ¬ ((c = 1 ∧ i = 0) ∨ c = 2) → ai_hv t0 c i = ai_hv tb c i)) (h0 : en_ld cl 0 = some (gx_r 1)) (h1 : en_ld cl 1 = some (.inr (.inl v))) (h3 : en_ld cl 3 = some (.inl 48)) : en_ex none fn (en_code 90) (fun _ => false) (3, cl, [], t0, n, 0) (fun o => ∃ r, o = .inl r ∧ ∃ t', r = (none, t', n, 0) ∧ ai_HG ah_G t' ∧ ai_hv t' 1 0 = some (.inl (fdv_48 v len)) ∧ (∀ c i, ¬ ((c = 1 ∧ i = 0) ∨ c = 2) → ai_hv t' c i = ai_hv tb c i)) := by
  have hg := sgM_le v 48
  refine gx_ld (i := 3) (d := 0) (v := .inl 48) rfl (fun _ => rfl) h3 rfl rfl ?_
  refine ex_go (S := (7, cl, [], t0, n, 0)) rfl (fun _ => rfl) rfl ?_
  refine gx_ld (i := 1) (d := 1) (v := .inr (.inl v)) rfl (fun _ => rfl) h1 rfl rfl ?_
  refine gx_ld (i := 3) (d := 0) (v := .inl 48) rfl (fun _ => rfl) h3 rfl rfl ?_
  refine ex_go (S := (10, cl, [.inr (.inl (en_lshr v 48))], t0, n, 0)) rfl (fun _ => rfl) rfl ?_
  refine ex_go (S := (13, cl, [.inr (.inl 255), .inr (.inl (en_lshr v 48))], t0, n, 0)) rfl (fun _ => rfl) rfl ?_
  refine ex_go (S := (14, cl, [.inr (.inl (en_land (en_lshr v 48) 255))], t0, n, 0)) rfl (fun _ => rfl) rfl ?_
  refine ex_go (S := (15, cl, [.inl ((lN (en_land (en_lshr v 48) 255)).toInt32.toBitVec.toNat)], t0, n, 0)) rfl (fun _ => rfl) rfl ?_
  rw [show (lN (en_land (en_lshr v 48) 255)).toInt32.toBitVec.toNat = sgM v 48 from sgC_M v 48]
  refine gx_sto (i := 4) (d := 0) rfl (fun _ => rfl) rfl rfl (fun l1 hl1 ml1 => ?_)
  have l1_0 : en_ld l1 0 = some (gx_r 1) := ml1 0 _ h0 rfl
  have l1_1 : en_ld l1 1 = some (.inr (.inl v)) := ml1 1 _ h1 rfl
  have l1_3 : en_ld l1 3 = some (.inl 48) := ml1 3 _ h3 rfl
  refine gx_ld (i := 0) (d := 2) (v := gx_r 1) rfl (fun _ => rfl) l1_0 rfl rfl ?_
  refine gxo_get (a := 1) rfl g0 rfl rfl k0 rfl ?_
  refine ex_go (S := (24, l1, [.inl 1000, .inl len], t0, n, 0)) rfl (fun _ => rfl) rfl ?_
  by_cases hc2 : 1000 ≤ len
  · refine gx_2t (c := .ge) rfl (by first | decide | omega) (by first | decide | omega) hc2 rfl ?_
    refine gx_incC (i := 3) (a := 48) (b := 40) rfl (fun _ => rfl) l1_3 rfl rfl (fun l3 hl3 ml3 => ?_)
    have l3_0 : en_ld l3 0 = some (gx_r 1) := ml3 0 _ l1_0 rfl
    have l3_1 : en_ld l3 1 = some (.inr (.inl v)) := ml3 1 _ l1_1 rfl
    have l3_4 : en_ld l3 4 = some (.inl (sgM v 48)) := ml3 4 _ hl1 rfl
    refine ex_go (S := (3, l3, [], t0, n, 0)) rfl (fun _ => rfl) rfl ?_
    have hq : fd1 len (sgM v 48) = len := fd1_n (by first | decide | omega)
    show en_ex _ _ _ _ _ (fun o => ∃ r, o = .inl r ∧ ∃ t', r = (none, t', n, 0) ∧ ai_HG ah_G t' ∧ ai_hv t' 1 0 = some (.inl (fdv_40 v (fd1 len (sgM v 48)))) ∧ (∀ c i, ¬ ((c = 1 ∧ i = 0) ∨ c = 2) → ai_hv t' c i = ai_hv tb c i))
    rw [hq]
    exact fzC_40 _ _ t0 (by first | decide | omega) g0 k0 (fun c i h => e0 c i h) l3_0 l3_1 hl3
  · refine gx_2f (c := .ge) rfl (by first | decide | omega) (by first | decide | omega) hc2 rfl ?_
    refine gx_ld (i := 4) (d := 0) (v := .inl (sgM v 48)) rfl (fun _ => rfl) hl1 rfl rfl ?_
    refine ex_go (S := (31, l1, [.inl 10, .inl (sgM v 48)], t0, n, 0)) rfl (fun _ => rfl) rfl ?_
    by_cases hc4 : sgM v 48 = 10
    · refine gx_2t (c := .eq) rfl (by first | decide | omega) (by first | decide | omega) hc4 rfl ?_
      refine gx_ld (i := 0) (d := 2) (v := gx_r 1) rfl (fun _ => rfl) l1_0 rfl rfl ?_
      refine gxo_ref (a := 1) (c := 2) rfl g0 rfl rfl rfl rfl rfl ?_
      refine gx_ld (i := 0) (d := 2) (v := gx_r 1) rfl (fun _ => rfl) l1_0 rfl rfl ?_
      refine gxo_get (a := 1) rfl g0 rfl rfl k0 rfl ?_
      refine gx_ld (i := 4) (d := 0) (v := .inl (sgM v 48)) rfl (fun _ => rfl) hl1 rfl rfl ?_
      refine gx_i2b rfl rfl (fun z5 z5a z5b => ?_)
      refine gx_apv (d := 2) rfl (fun _ => rfl) g0 rfl rfl (gx_bfit (by first | decide | omega)) (show len < 1000 from by omega) (gx_run1 (show len < 1000 from by omega)) (gx_brh (by first | decide | omega) (by first | decide | omega)) rfl (fun t106 g106 k106 e106 => ?_)
      have k7 : ai_hv t106 1 0 = some (.inl len) := (e106 1 0 (by first | decide | omega)).trans k0
      refine gx_ld (i := 0) (d := 2) (v := gx_r 1) rfl (fun _ => rfl) l1_0 rfl rfl ?_
      refine ex_go (S := (62, l1, [gx_r 1, gx_r 1], t106, n, 0)) rfl (fun _ => rfl) rfl ?_
      refine gxo_get (a := 1) rfl g106 rfl rfl k7 rfl ?_
      refine ex_go (S := (66, l1, [.inl 1, .inl len, gx_r 1], t106, n, 0)) rfl (fun _ => rfl) rfl ?_
      refine ex_iadd rfl (by first | decide | omega) rfl ?_
      refine gxo_put (a := 1) rfl g106 rfl rfl rfl (ai_in_h (by first | decide | omega) (by first | decide | omega) (by first | decide | omega)) rfl (fun t108 g108 k108 e108 => ?_)
      refine gx_incC (i := 3) (a := 48) (b := 40) rfl (fun _ => rfl) l1_3 rfl rfl (fun l9 hl9 ml9 => ?_)
      have l9_0 : en_ld l9 0 = some (gx_r 1) := ml9 0 _ l1_0 rfl
      have l9_1 : en_ld l9 1 = some (.inr (.inl v)) := ml9 1 _ l1_1 rfl
      have l9_4 : en_ld l9 4 = some (.inl (sgM v 48)) := ml9 4 _ hl1 rfl
      refine ex_go (S := (3, l9, [], t108, n, 0)) rfl (fun _ => rfl) rfl ?_
      have hq : fd1 len (sgM v 48) = len + 1 := fd1_y (by first | decide | omega) (by first | decide | omega)
      show en_ex _ _ _ _ _ (fun o => ∃ r, o = .inl r ∧ ∃ t', r = (none, t', n, 0) ∧ ai_HG ah_G t' ∧ ai_hv t' 1 0 = some (.inl (fdv_40 v (fd1 len (sgM v 48)))) ∧ (∀ c i, ¬ ((c = 1 ∧ i = 0) ∨ c = 2) → ai_hv t' c i = ai_hv tb c i))
      rw [hq]
      exact fzC_40 _ _ t108 (by first | decide | omega) g108 k108 (fun c i h => (e108 c i (by first | decide | omega)).trans ((e106 c i (by first | decide | omega)).trans (e0 c i h))) l9_0 l9_1 hl9
    · refine gx_2f (c := .eq) rfl (by first | decide | omega) (by first | decide | omega) hc4 rfl ?_
      refine gx_ld (i := 4) (d := 0) (v := .inl (sgM v 48)) rfl (fun _ => rfl) hl1 rfl rfl ?_
      refine ex_go (S := (38, l1, [.inl 32, .inl (sgM v 48)], t0, n, 0)) rfl (fun _ => rfl) rfl ?_
      by_cases hc10 : sgM v 48 < 32
      · refine gx_2t (c := .lt) rfl (by first | decide | omega) (by first | decide | omega) hc10 rfl ?_
        refine gx_incC (i := 3) (a := 48) (b := 40) rfl (fun _ => rfl) l1_3 rfl rfl (fun l11 hl11 ml11 => ?_)
        have l11_0 : en_ld l11 0 = some (gx_r 1) := ml11 0 _ l1_0 rfl
        have l11_1 : en_ld l11 1 = some (.inr (.inl v)) := ml11 1 _ l1_1 rfl
        have l11_4 : en_ld l11 4 = some (.inl (sgM v 48)) := ml11 4 _ hl1 rfl
        refine ex_go (S := (3, l11, [], t0, n, 0)) rfl (fun _ => rfl) rfl ?_
        have hq : fd1 len (sgM v 48) = len := fd1_n (by first | decide | omega)
        show en_ex _ _ _ _ _ (fun o => ∃ r, o = .inl r ∧ ∃ t', r = (none, t', n, 0) ∧ ai_HG ah_G t' ∧ ai_hv t' 1 0 = some (.inl (fdv_40 v (fd1 len (sgM v 48)))) ∧ (∀ c i, ¬ ((c = 1 ∧ i = 0) ∨ c = 2) → ai_hv t' c i = ai_hv tb c i))
        rw [hq]
        exact fzC_40 _ _ t0 (by first | decide | omega) g0 k0 (fun c i h => e0 c i h) l11_0 l11_1 hl11
      · refine gx_2f (c := .lt) rfl (by first | decide | omega) (by first | decide | omega) hc10 rfl ?_
        refine gx_ld (i := 4) (d := 0) (v := .inl (sgM v 48)) rfl (fun _ => rfl) hl1 rfl rfl ?_
        refine ex_go (S := (45, l1, [.inl 126, .inl (sgM v 48)], t0, n, 0)) rfl (fun _ => rfl) rfl ?_
        by_cases hc12 : 126 < sgM v 48
        · refine gx_2t (c := .gt) rfl (by first | decide | omega) (by first | decide | omega) hc12 rfl ?_
          refine gx_incC (i := 3) (a := 48) (b := 40) rfl (fun _ => rfl) l1_3 rfl rfl (fun l13 hl13 ml13 => ?_)
          have l13_0 : en_ld l13 0 = some (gx_r 1) := ml13 0 _ l1_0 rfl
          have l13_1 : en_ld l13 1 = some (.inr (.inl v)) := ml13 1 _ l1_1 rfl
          have l13_4 : en_ld l13 4 = some (.inl (sgM v 48)) := ml13 4 _ hl1 rfl
          refine ex_go (S := (3, l13, [], t0, n, 0)) rfl (fun _ => rfl) rfl ?_
          have hq : fd1 len (sgM v 48) = len := fd1_n (by first | decide | omega)
          show en_ex _ _ _ _ _ (fun o => ∃ r, o = .inl r ∧ ∃ t', r = (none, t', n, 0) ∧ ai_HG ah_G t' ∧ ai_hv t' 1 0 = some (.inl (fdv_40 v (fd1 len (sgM v 48)))) ∧ (∀ c i, ¬ ((c = 1 ∧ i = 0) ∨ c = 2) → ai_hv t' c i = ai_hv tb c i))
          rw [hq]
          exact fzC_40 _ _ t0 (by first | decide | omega) g0 k0 (fun c i h => e0 c i h) l13_0 l13_1 hl13
        · refine gx_2f (c := .gt) rfl (by first | decide | omega) (by first | decide | omega) hc12 rfl ?_
          refine gx_ld (i := 0) (d := 2) (v := gx_r 1) rfl (fun _ => rfl) l1_0 rfl rfl ?_
          refine gxo_ref (a := 1) (c := 2) rfl g0 rfl rfl rfl rfl rfl ?_
          refine gx_ld (i := 0) (d := 2) (v := gx_r 1) rfl (fun _ => rfl) l1_0 rfl rfl ?_
          refine gxo_get (a := 1) rfl g0 rfl rfl k0 rfl ?_
          refine gx_ld (i := 4) (d := 0) (v := .inl (sgM v 48)) rfl (fun _ => rfl) hl1 rfl rfl ?_
          refine gx_i2b rfl rfl (fun z14 z14a z14b => ?_)
          refine gx_apv (d := 2) rfl (fun _ => rfl) g0 rfl rfl (gx_bfit (by first | decide | omega)) (show len < 1000 from by omega) (gx_run1 (show len < 1000 from by omega)) (gx_brh (by first | decide | omega) (by first | decide | omega)) rfl (fun t115 g115 k115 e115 => ?_)
          have k16 : ai_hv t115 1 0 = some (.inl len) := (e115 1 0 (by first | decide | omega)).trans k0
          refine gx_ld (i := 0) (d := 2) (v := gx_r 1) rfl (fun _ => rfl) l1_0 rfl rfl ?_
          refine ex_go (S := (62, l1, [gx_r 1, gx_r 1], t115, n, 0)) rfl (fun _ => rfl) rfl ?_
          refine gxo_get (a := 1) rfl g115 rfl rfl k16 rfl ?_
          refine ex_go (S := (66, l1, [.inl 1, .inl len, gx_r 1], t115, n, 0)) rfl (fun _ => rfl) rfl ?_
          refine ex_iadd rfl (by first | decide | omega) rfl ?_
          refine gxo_put (a := 1) rfl g115 rfl rfl rfl (ai_in_h (by first | decide | omega) (by first | decide | omega) (by first | decide | omega)) rfl (fun t117 g117 k117 e117 => ?_)
          refine gx_incC (i := 3) (a := 48) (b := 40) rfl (fun _ => rfl) l1_3 rfl rfl (fun l18 hl18 ml18 => ?_)
          have l18_0 : en_ld l18 0 = some (gx_r 1) := ml18 0 _ l1_0 rfl
          have l18_1 : en_ld l18 1 = some (.inr (.inl v)) := ml18 1 _ l1_1 rfl
          have l18_4 : en_ld l18 4 = some (.inl (sgM v 48)) := ml18 4 _ hl1 rfl
          refine ex_go (S := (3, l18, [], t117, n, 0)) rfl (fun _ => rfl) rfl ?_
          have hq : fd1 len (sgM v 48) = len + 1 := fd1_y (by first | decide | omega) (by first | decide | omega)
          show en_ex _ _ _ _ _ (fun o => ∃ r, o = .inl r ∧ ∃ t', r = (none, t', n, 0) ∧ ai_HG ah_G t' ∧ ai_hv t' 1 0 = some (.inl (fdv_40 v (fd1 len (sgM v 48)))) ∧ (∀ c i, ¬ ((c = 1 ∧ i = 0) ∨ c = 2) → ai_hv t' c i = ai_hv tb c i))
          rw [hq]
          exact fzC_40 _ _ t117 (by first | decide | omega) g117 k117 (fun c i h => (e117 c i (by first | decide | omega)).trans ((e115 c i (by first | decide | omega)).trans (e0 c i h))) l18_0 l18_1 hl18
theorem fzC_56 {fn : en_F} {n v : Nat} {tb : en_H} (len : Nat) (cl : en_L) (t0 : en_H) (hl : len ≤ 1000) (g0 : ai_HG ah_G t0) (k0 : ai_hv t0 1 0 = some (.inl len)) (e0 : (∀ c i, ¬ ((c = 1 ∧ i = 0) ∨ c = 2) → ai_hv t0 c i = ai_hv tb c i)) (h0 : en_ld cl 0 = some (gx_r 1)) (h1 : en_ld cl 1 = some (.inr (.inl v))) (h3 : en_ld cl 3 = some (.inl 56)) : en_ex none fn (en_code 90) (fun _ => false) (3, cl, [], t0, n, 0) (fun o => ∃ r, o = .inl r ∧ ∃ t', r = (none, t', n, 0) ∧ ai_HG ah_G t' ∧ ai_hv t' 1 0 = some (.inl (fdv_56 v len)) ∧ (∀ c i, ¬ ((c = 1 ∧ i = 0) ∨ c = 2) → ai_hv t' c i = ai_hv tb c i)) := by
  have hg := sgM_le v 56
  refine gx_ld (i := 3) (d := 0) (v := .inl 56) rfl (fun _ => rfl) h3 rfl rfl ?_
  refine ex_go (S := (7, cl, [], t0, n, 0)) rfl (fun _ => rfl) rfl ?_
  refine gx_ld (i := 1) (d := 1) (v := .inr (.inl v)) rfl (fun _ => rfl) h1 rfl rfl ?_
  refine gx_ld (i := 3) (d := 0) (v := .inl 56) rfl (fun _ => rfl) h3 rfl rfl ?_
  refine ex_go (S := (10, cl, [.inr (.inl (en_lshr v 56))], t0, n, 0)) rfl (fun _ => rfl) rfl ?_
  refine ex_go (S := (13, cl, [.inr (.inl 255), .inr (.inl (en_lshr v 56))], t0, n, 0)) rfl (fun _ => rfl) rfl ?_
  refine ex_go (S := (14, cl, [.inr (.inl (en_land (en_lshr v 56) 255))], t0, n, 0)) rfl (fun _ => rfl) rfl ?_
  refine ex_go (S := (15, cl, [.inl ((lN (en_land (en_lshr v 56) 255)).toInt32.toBitVec.toNat)], t0, n, 0)) rfl (fun _ => rfl) rfl ?_
  rw [show (lN (en_land (en_lshr v 56) 255)).toInt32.toBitVec.toNat = sgM v 56 from sgC_M v 56]
  refine gx_sto (i := 4) (d := 0) rfl (fun _ => rfl) rfl rfl (fun l1 hl1 ml1 => ?_)
  have l1_0 : en_ld l1 0 = some (gx_r 1) := ml1 0 _ h0 rfl
  have l1_1 : en_ld l1 1 = some (.inr (.inl v)) := ml1 1 _ h1 rfl
  have l1_3 : en_ld l1 3 = some (.inl 56) := ml1 3 _ h3 rfl
  refine gx_ld (i := 0) (d := 2) (v := gx_r 1) rfl (fun _ => rfl) l1_0 rfl rfl ?_
  refine gxo_get (a := 1) rfl g0 rfl rfl k0 rfl ?_
  refine ex_go (S := (24, l1, [.inl 1000, .inl len], t0, n, 0)) rfl (fun _ => rfl) rfl ?_
  by_cases hc2 : 1000 ≤ len
  · refine gx_2t (c := .ge) rfl (by first | decide | omega) (by first | decide | omega) hc2 rfl ?_
    refine gx_incC (i := 3) (a := 56) (b := 48) rfl (fun _ => rfl) l1_3 rfl rfl (fun l3 hl3 ml3 => ?_)
    have l3_0 : en_ld l3 0 = some (gx_r 1) := ml3 0 _ l1_0 rfl
    have l3_1 : en_ld l3 1 = some (.inr (.inl v)) := ml3 1 _ l1_1 rfl
    have l3_4 : en_ld l3 4 = some (.inl (sgM v 56)) := ml3 4 _ hl1 rfl
    refine ex_go (S := (3, l3, [], t0, n, 0)) rfl (fun _ => rfl) rfl ?_
    have hq : fd1 len (sgM v 56) = len := fd1_n (by first | decide | omega)
    show en_ex _ _ _ _ _ (fun o => ∃ r, o = .inl r ∧ ∃ t', r = (none, t', n, 0) ∧ ai_HG ah_G t' ∧ ai_hv t' 1 0 = some (.inl (fdv_48 v (fd1 len (sgM v 56)))) ∧ (∀ c i, ¬ ((c = 1 ∧ i = 0) ∨ c = 2) → ai_hv t' c i = ai_hv tb c i))
    rw [hq]
    exact fzC_48 _ _ t0 (by first | decide | omega) g0 k0 (fun c i h => e0 c i h) l3_0 l3_1 hl3
  · refine gx_2f (c := .ge) rfl (by first | decide | omega) (by first | decide | omega) hc2 rfl ?_
    refine gx_ld (i := 4) (d := 0) (v := .inl (sgM v 56)) rfl (fun _ => rfl) hl1 rfl rfl ?_
    refine ex_go (S := (31, l1, [.inl 10, .inl (sgM v 56)], t0, n, 0)) rfl (fun _ => rfl) rfl ?_
    by_cases hc4 : sgM v 56 = 10
    · refine gx_2t (c := .eq) rfl (by first | decide | omega) (by first | decide | omega) hc4 rfl ?_
      refine gx_ld (i := 0) (d := 2) (v := gx_r 1) rfl (fun _ => rfl) l1_0 rfl rfl ?_
      refine gxo_ref (a := 1) (c := 2) rfl g0 rfl rfl rfl rfl rfl ?_
      refine gx_ld (i := 0) (d := 2) (v := gx_r 1) rfl (fun _ => rfl) l1_0 rfl rfl ?_
      refine gxo_get (a := 1) rfl g0 rfl rfl k0 rfl ?_
      refine gx_ld (i := 4) (d := 0) (v := .inl (sgM v 56)) rfl (fun _ => rfl) hl1 rfl rfl ?_
      refine gx_i2b rfl rfl (fun z5 z5a z5b => ?_)
      refine gx_apv (d := 2) rfl (fun _ => rfl) g0 rfl rfl (gx_bfit (by first | decide | omega)) (show len < 1000 from by omega) (gx_run1 (show len < 1000 from by omega)) (gx_brh (by first | decide | omega) (by first | decide | omega)) rfl (fun t106 g106 k106 e106 => ?_)
      have k7 : ai_hv t106 1 0 = some (.inl len) := (e106 1 0 (by first | decide | omega)).trans k0
      refine gx_ld (i := 0) (d := 2) (v := gx_r 1) rfl (fun _ => rfl) l1_0 rfl rfl ?_
      refine ex_go (S := (62, l1, [gx_r 1, gx_r 1], t106, n, 0)) rfl (fun _ => rfl) rfl ?_
      refine gxo_get (a := 1) rfl g106 rfl rfl k7 rfl ?_
      refine ex_go (S := (66, l1, [.inl 1, .inl len, gx_r 1], t106, n, 0)) rfl (fun _ => rfl) rfl ?_
      refine ex_iadd rfl (by first | decide | omega) rfl ?_
      refine gxo_put (a := 1) rfl g106 rfl rfl rfl (ai_in_h (by first | decide | omega) (by first | decide | omega) (by first | decide | omega)) rfl (fun t108 g108 k108 e108 => ?_)
      refine gx_incC (i := 3) (a := 56) (b := 48) rfl (fun _ => rfl) l1_3 rfl rfl (fun l9 hl9 ml9 => ?_)
      have l9_0 : en_ld l9 0 = some (gx_r 1) := ml9 0 _ l1_0 rfl
      have l9_1 : en_ld l9 1 = some (.inr (.inl v)) := ml9 1 _ l1_1 rfl
      have l9_4 : en_ld l9 4 = some (.inl (sgM v 56)) := ml9 4 _ hl1 rfl
      refine ex_go (S := (3, l9, [], t108, n, 0)) rfl (fun _ => rfl) rfl ?_
      have hq : fd1 len (sgM v 56) = len + 1 := fd1_y (by first | decide | omega) (by first | decide | omega)
      show en_ex _ _ _ _ _ (fun o => ∃ r, o = .inl r ∧ ∃ t', r = (none, t', n, 0) ∧ ai_HG ah_G t' ∧ ai_hv t' 1 0 = some (.inl (fdv_48 v (fd1 len (sgM v 56)))) ∧ (∀ c i, ¬ ((c = 1 ∧ i = 0) ∨ c = 2) → ai_hv t' c i = ai_hv tb c i))
      rw [hq]
      exact fzC_48 _ _ t108 (by first | decide | omega) g108 k108 (fun c i h => (e108 c i (by first | decide | omega)).trans ((e106 c i (by first | decide | omega)).trans (e0 c i h))) l9_0 l9_1 hl9
    · refine gx_2f (c := .eq) rfl (by first | decide | omega) (by first | decide | omega) hc4 rfl ?_
      refine gx_ld (i := 4) (d := 0) (v := .inl (sgM v 56)) rfl (fun _ => rfl) hl1 rfl rfl ?_
      refine ex_go (S := (38, l1, [.inl 32, .inl (sgM v 56)], t0, n, 0)) rfl (fun _ => rfl) rfl ?_
      by_cases hc10 : sgM v 56 < 32
      · refine gx_2t (c := .lt) rfl (by first | decide | omega) (by first | decide | omega) hc10 rfl ?_
        refine gx_incC (i := 3) (a := 56) (b := 48) rfl (fun _ => rfl) l1_3 rfl rfl (fun l11 hl11 ml11 => ?_)
        have l11_0 : en_ld l11 0 = some (gx_r 1) := ml11 0 _ l1_0 rfl
        have l11_1 : en_ld l11 1 = some (.inr (.inl v)) := ml11 1 _ l1_1 rfl
        have l11_4 : en_ld l11 4 = some (.inl (sgM v 56)) := ml11 4 _ hl1 rfl
        refine ex_go (S := (3, l11, [], t0, n, 0)) rfl (fun _ => rfl) rfl ?_
        have hq : fd1 len (sgM v 56) = len := fd1_n (by first | decide | omega)
        show en_ex _ _ _ _ _ (fun o => ∃ r, o = .inl r ∧ ∃ t', r = (none, t', n, 0) ∧ ai_HG ah_G t' ∧ ai_hv t' 1 0 = some (.inl (fdv_48 v (fd1 len (sgM v 56)))) ∧ (∀ c i, ¬ ((c = 1 ∧ i = 0) ∨ c = 2) → ai_hv t' c i = ai_hv tb c i))
        rw [hq]
        exact fzC_48 _ _ t0 (by first | decide | omega) g0 k0 (fun c i h => e0 c i h) l11_0 l11_1 hl11
      · refine gx_2f (c := .lt) rfl (by first | decide | omega) (by first | decide | omega) hc10 rfl ?_
        refine gx_ld (i := 4) (d := 0) (v := .inl (sgM v 56)) rfl (fun _ => rfl) hl1 rfl rfl ?_
        refine ex_go (S := (45, l1, [.inl 126, .inl (sgM v 56)], t0, n, 0)) rfl (fun _ => rfl) rfl ?_
        by_cases hc12 : 126 < sgM v 56
        · refine gx_2t (c := .gt) rfl (by first | decide | omega) (by first | decide | omega) hc12 rfl ?_
          refine gx_incC (i := 3) (a := 56) (b := 48) rfl (fun _ => rfl) l1_3 rfl rfl (fun l13 hl13 ml13 => ?_)
          have l13_0 : en_ld l13 0 = some (gx_r 1) := ml13 0 _ l1_0 rfl
          have l13_1 : en_ld l13 1 = some (.inr (.inl v)) := ml13 1 _ l1_1 rfl
          have l13_4 : en_ld l13 4 = some (.inl (sgM v 56)) := ml13 4 _ hl1 rfl
          refine ex_go (S := (3, l13, [], t0, n, 0)) rfl (fun _ => rfl) rfl ?_
          have hq : fd1 len (sgM v 56) = len := fd1_n (by first | decide | omega)
          show en_ex _ _ _ _ _ (fun o => ∃ r, o = .inl r ∧ ∃ t', r = (none, t', n, 0) ∧ ai_HG ah_G t' ∧ ai_hv t' 1 0 = some (.inl (fdv_48 v (fd1 len (sgM v 56)))) ∧ (∀ c i, ¬ ((c = 1 ∧ i = 0) ∨ c = 2) → ai_hv t' c i = ai_hv tb c i))
          rw [hq]
          exact fzC_48 _ _ t0 (by first | decide | omega) g0 k0 (fun c i h => e0 c i h) l13_0 l13_1 hl13
        · refine gx_2f (c := .gt) rfl (by first | decide | omega) (by first | decide | omega) hc12 rfl ?_
          refine gx_ld (i := 0) (d := 2) (v := gx_r 1) rfl (fun _ => rfl) l1_0 rfl rfl ?_
          refine gxo_ref (a := 1) (c := 2) rfl g0 rfl rfl rfl rfl rfl ?_
          refine gx_ld (i := 0) (d := 2) (v := gx_r 1) rfl (fun _ => rfl) l1_0 rfl rfl ?_
          refine gxo_get (a := 1) rfl g0 rfl rfl k0 rfl ?_
          refine gx_ld (i := 4) (d := 0) (v := .inl (sgM v 56)) rfl (fun _ => rfl) hl1 rfl rfl ?_
          refine gx_i2b rfl rfl (fun z14 z14a z14b => ?_)
          refine gx_apv (d := 2) rfl (fun _ => rfl) g0 rfl rfl (gx_bfit (by first | decide | omega)) (show len < 1000 from by omega) (gx_run1 (show len < 1000 from by omega)) (gx_brh (by first | decide | omega) (by first | decide | omega)) rfl (fun t115 g115 k115 e115 => ?_)
          have k16 : ai_hv t115 1 0 = some (.inl len) := (e115 1 0 (by first | decide | omega)).trans k0
          refine gx_ld (i := 0) (d := 2) (v := gx_r 1) rfl (fun _ => rfl) l1_0 rfl rfl ?_
          refine ex_go (S := (62, l1, [gx_r 1, gx_r 1], t115, n, 0)) rfl (fun _ => rfl) rfl ?_
          refine gxo_get (a := 1) rfl g115 rfl rfl k16 rfl ?_
          refine ex_go (S := (66, l1, [.inl 1, .inl len, gx_r 1], t115, n, 0)) rfl (fun _ => rfl) rfl ?_
          refine ex_iadd rfl (by first | decide | omega) rfl ?_
          refine gxo_put (a := 1) rfl g115 rfl rfl rfl (ai_in_h (by first | decide | omega) (by first | decide | omega) (by first | decide | omega)) rfl (fun t117 g117 k117 e117 => ?_)
          refine gx_incC (i := 3) (a := 56) (b := 48) rfl (fun _ => rfl) l1_3 rfl rfl (fun l18 hl18 ml18 => ?_)
          have l18_0 : en_ld l18 0 = some (gx_r 1) := ml18 0 _ l1_0 rfl
          have l18_1 : en_ld l18 1 = some (.inr (.inl v)) := ml18 1 _ l1_1 rfl
          have l18_4 : en_ld l18 4 = some (.inl (sgM v 56)) := ml18 4 _ hl1 rfl
          refine ex_go (S := (3, l18, [], t117, n, 0)) rfl (fun _ => rfl) rfl ?_
          have hq : fd1 len (sgM v 56) = len + 1 := fd1_y (by first | decide | omega) (by first | decide | omega)
          show en_ex _ _ _ _ _ (fun o => ∃ r, o = .inl r ∧ ∃ t', r = (none, t', n, 0) ∧ ai_HG ah_G t' ∧ ai_hv t' 1 0 = some (.inl (fdv_48 v (fd1 len (sgM v 56)))) ∧ (∀ c i, ¬ ((c = 1 ∧ i = 0) ∨ c = 2) → ai_hv t' c i = ai_hv tb c i))
          rw [hq]
          exact fzC_48 _ _ t117 (by first | decide | omega) g117 k117 (fun c i h => (e117 c i (by first | decide | omega)).trans ((e115 c i (by first | decide | omega)).trans (e0 c i h))) l18_0 l18_1 hl18
theorem pk_put (d n : Nat) {v len : Nat} {tb : en_H} (g0 : ai_HG ah_G tb) (hl : len ≤ 1000) (k0 : ai_hv tb 1 0 = some (.inl len)) : ∃ r, en_u (d + 1) 90 [gx_r 1, .inr (.inl v)] tb n = some r ∧ ∃ t', r = (none, t', n, 0) ∧ ai_HG ah_G t' ∧ ai_hv t' 1 0 = some (.inl (fdv_56 v len)) ∧ (∀ c i, ¬ ((c = 1 ∧ i = 0) ∨ c = 2) → ai_hv t' c i = ai_hv tb c i) := by
  refine en_u_ex rfl ?_
  show en_ex _ _ _ _ (0, [(0, gx_r 1), (1, .inr (.inl v))], [], tb, n, 0) _
  refine ex_go (S := (2, [(0, gx_r 1), (1, .inr (.inl v))], [.inl 56], tb, n, 0)) rfl (fun _ => rfl) rfl ?_
  refine ex_go (S := (3, [(3, .inl 56), (0, gx_r 1), (1, .inr (.inl v))], [], tb, n, 0)) rfl (fun _ => rfl) rfl ?_
  exact fzC_56 len _ tb hl g0 k0 (fun c i h => rfl) rfl rfl rfl
theorem pk_feedC (d n : Nat) {u v w len : Nat} {t0 : en_H} (g0 : ai_HG ah_G t0) (hl : len ≤ 1000) (k0 : ai_hv t0 1 0 = some (.inl len)) : ∃ r, en_u (d + 2) 30 [gx_r 0, .inr (.inl u), .inr (.inl v), .inr (.inl w)] t0 n = some r ∧ ∃ t', r = (some (.inl (fdv_56 w (fdv_56 v (fdv_56 u len)))), t', n, 0) ∧ ai_HG ah_G t' ∧ ai_hv t' 1 0 = some (.inl (fdv_56 w (fdv_56 v (fdv_56 u len)))) ∧ (∀ c i, ¬ ((c = 1 ∧ i = 0) ∨ c = 2) → ai_hv t' c i = ai_hv t0 c i) := by
  have l1 := fdv_le u hl
  have l2 := fdv_le v l1
  have l3 := fdv_le w l2
  refine en_u_ex (d := d + 1) rfl ?_
  show en_ex _ _ _ _ (0, [(0, gx_r 0), (1, .inr (.inl u)), (3, .inr (.inl v)), (5, .inr (.inl w))], [], t0, n, 0) _
  refine ex_go (S := (1, [(0, gx_r 0), (1, .inr (.inl u)), (3, .inr (.inl v)), (5, .inr (.inl w))], [gx_r 0], t0, n, 0)) rfl (fun _ => rfl) rfl ?_
  refine gxo_ref (a := 0) (c := 1) rfl g0 rfl rfl rfl rfl rfl ?_
  refine ex_go (S := (5, [(0, gx_r 0), (1, .inr (.inl u)), (3, .inr (.inl v)), (5, .inr (.inl w))], [.inr (.inl u), gx_r 1], t0, n, 0)) rfl (fun _ => rfl) rfl ?_
  obtain ⟨_, r101, t101, rfl, g101, k101, e101⟩ := pk_put d n (v := u) g0 hl k0
  refine gx_callo (a := 1) rfl rfl g0 rfl rfl rfl r101 rfl ?_
  show en_ex _ _ _ _ (8, [(0, gx_r 0), (1, .inr (.inl u)), (3, .inr (.inl v)), (5, .inr (.inl w))], [], t101, n, 0) _
  refine ex_go (S := (9, [(0, gx_r 0), (1, .inr (.inl u)), (3, .inr (.inl v)), (5, .inr (.inl w))], [gx_r 0], t101, n, 0)) rfl (fun _ => rfl) rfl ?_
  refine gxo_ref (a := 0) (c := 1) rfl g101 rfl rfl rfl rfl rfl ?_
  refine ex_go (S := (13, [(0, gx_r 0), (1, .inr (.inl u)), (3, .inr (.inl v)), (5, .inr (.inl w))], [.inr (.inl v), gx_r 1], t101, n, 0)) rfl (fun _ => rfl) rfl ?_
  obtain ⟨_, r102, t102, rfl, g102, k102, e102⟩ := pk_put d n (v := v) g101 l1 k101
  refine gx_callo (a := 1) rfl rfl g101 rfl rfl rfl r102 rfl ?_
  show en_ex _ _ _ _ (16, [(0, gx_r 0), (1, .inr (.inl u)), (3, .inr (.inl v)), (5, .inr (.inl w))], [], t102, n, 0) _
  refine ex_go (S := (17, [(0, gx_r 0), (1, .inr (.inl u)), (3, .inr (.inl v)), (5, .inr (.inl w))], [gx_r 0], t102, n, 0)) rfl (fun _ => rfl) rfl ?_
  refine gxo_ref (a := 0) (c := 1) rfl g102 rfl rfl rfl rfl rfl ?_
  refine ex_go (S := (22, [(0, gx_r 0), (1, .inr (.inl u)), (3, .inr (.inl v)), (5, .inr (.inl w))], [.inr (.inl w), gx_r 1], t102, n, 0)) rfl (fun _ => rfl) rfl ?_
  obtain ⟨_, r103, t103, rfl, g103, k103, e103⟩ := pk_put d n (v := w) g102 l2 k102
  refine gx_callo (a := 1) rfl rfl g102 rfl rfl rfl r103 rfl ?_
  show en_ex _ _ _ _ (25, [(0, gx_r 0), (1, .inr (.inl u)), (3, .inr (.inl v)), (5, .inr (.inl w))], [], t103, n, 0) _
  refine ex_go (S := (26, [(0, gx_r 0), (1, .inr (.inl u)), (3, .inr (.inl v)), (5, .inr (.inl w))], [gx_r 0], t103, n, 0)) rfl (fun _ => rfl) rfl ?_
  refine gxo_ref (a := 0) (c := 1) rfl g103 rfl rfl rfl rfl rfl ?_
  refine gxo_get (a := 1) rfl g103 rfl rfl k103 rfl ?_
  refine ex_ret (r := (some (.inl (fdv_56 w (fdv_56 v (fdv_56 u len)))), t103, n, 0)) rfl (fun _ => rfl) ?_
  exact ⟨_, rfl, t103, rfl, g103, k103, (fun c i h => (e103 c i (by first | decide | omega)).trans ((e102 c i (by first | decide | omega)).trans (e101 c i (by first | decide | omega))))⟩
theorem fzM_e {fn : en_F} {n v : Nat} {tb : en_H} (len : Nat) (cl : en_L) (t0 : en_H) (hl : len ≤ 1000) (g0 : ai_HG ah_G t0) (k0 : ai_hv t0 383 2 = some (.inl len)) (e0 : (∀ c i, ¬ ((c = 383 ∧ i = 2) ∨ c = 384) → ai_hv t0 c i = ai_hv tb c i)) (h0 : en_ld cl 0 = some (gx_r 383)) (h1 : en_ld cl 1 = some (.inr (.inl v))) (h3 : en_ld cl 3 = some (.inl 4294967288)) : en_ex none fn (en_code 91) (fun _ => false) (3, cl, [], t0, n, 0) (fun o => ∃ r, o = .inl r ∧ ∃ t', r = (none, t', n, 0) ∧ ai_HG ah_G t' ∧ ai_hv t' 383 2 = some (.inl (len)) ∧ (∀ c i, ¬ ((c = 383 ∧ i = 2) ∨ c = 384) → ai_hv t' c i = ai_hv tb c i)) := by
  refine gx_ld (i := 3) (d := 0) (v := .inl 4294967288) rfl (fun _ => rfl) h3 rfl rfl ?_
  refine ex_go (S := (75, cl, [], t0, n, 0)) rfl (fun _ => rfl) rfl ?_
  refine ex_ret (r := (none, t0, n, 0)) rfl (fun _ => rfl) ?_
  exact ⟨_, rfl, t0, rfl, g0, k0, (fun c i h => e0 c i h)⟩
theorem fzM_0 {fn : en_F} {n v : Nat} {tb : en_H} (len : Nat) (cl : en_L) (t0 : en_H) (hl : len ≤ 1000) (g0 : ai_HG ah_G t0) (k0 : ai_hv t0 383 2 = some (.inl len)) (e0 : (∀ c i, ¬ ((c = 383 ∧ i = 2) ∨ c = 384) → ai_hv t0 c i = ai_hv tb c i)) (h0 : en_ld cl 0 = some (gx_r 383)) (h1 : en_ld cl 1 = some (.inr (.inl v))) (h3 : en_ld cl 3 = some (.inl 0)) : en_ex none fn (en_code 91) (fun _ => false) (3, cl, [], t0, n, 0) (fun o => ∃ r, o = .inl r ∧ ∃ t', r = (none, t', n, 0) ∧ ai_HG ah_G t' ∧ ai_hv t' 383 2 = some (.inl (fdv_0 v len)) ∧ (∀ c i, ¬ ((c = 383 ∧ i = 2) ∨ c = 384) → ai_hv t' c i = ai_hv tb c i)) := by
  have hg := sgM_le v 0
  refine gx_ld (i := 3) (d := 0) (v := .inl 0) rfl (fun _ => rfl) h3 rfl rfl ?_
  refine ex_go (S := (7, cl, [], t0, n, 0)) rfl (fun _ => rfl) rfl ?_
  refine gx_ld (i := 1) (d := 1) (v := .inr (.inl v)) rfl (fun _ => rfl) h1 rfl rfl ?_
  refine gx_ld (i := 3) (d := 0) (v := .inl 0) rfl (fun _ => rfl) h3 rfl rfl ?_
  refine ex_go (S := (10, cl, [.inr (.inl (en_lshr v 0))], t0, n, 0)) rfl (fun _ => rfl) rfl ?_
  refine ex_go (S := (11, cl, [.inl ((lN (en_lshr v 0)).toInt32.toBitVec.toNat)], t0, n, 0)) rfl (fun _ => rfl) rfl ?_
  refine ex_go (S := (14, cl, [.inl 255, .inl ((lN (en_lshr v 0)).toInt32.toBitVec.toNat)], t0, n, 0)) rfl (fun _ => rfl) rfl ?_
  refine ex_go (S := (15, cl, [.inl ((nI ((lN (en_lshr v 0)).toInt32.toBitVec.toNat) &&& nI 255).toBitVec.toNat)], t0, n, 0)) rfl (fun _ => rfl) rfl ?_
  rw [show (nI ((lN (en_lshr v 0)).toInt32.toBitVec.toNat) &&& nI 255).toBitVec.toNat = sgM v 0 from rfl]
  refine gx_sto (i := 4) (d := 0) rfl (fun _ => rfl) rfl rfl (fun l1 hl1 ml1 => ?_)
  have l1_0 : en_ld l1 0 = some (gx_r 383) := ml1 0 _ h0 rfl
  have l1_1 : en_ld l1 1 = some (.inr (.inl v)) := ml1 1 _ h1 rfl
  have l1_3 : en_ld l1 3 = some (.inl 0) := ml1 3 _ h3 rfl
  refine gx_ld (i := 4) (d := 0) (v := .inl (sgM v 0)) rfl (fun _ => rfl) hl1 rfl rfl ?_
  refine ex_go (S := (21, l1, [.inl 10, .inl (sgM v 0)], t0, n, 0)) rfl (fun _ => rfl) rfl ?_
  by_cases hc2 : sgM v 0 = 10
  · refine gx_2t (c := .eq) rfl (by first | decide | omega) (by first | decide | omega) hc2 rfl ?_
    refine gx_ld (i := 0) (d := 2) (v := gx_r 383) rfl (fun _ => rfl) l1_0 rfl rfl ?_
    refine gx_get rfl g0 rfl k0 rfl ?_
    refine ex_go (S := (45, l1, [.inl 1000, .inl len], t0, n, 0)) rfl (fun _ => rfl) rfl ?_
    by_cases hc3 : 1000 ≤ len
    · refine gx_2t (c := .ge) rfl (by first | decide | omega) (by first | decide | omega) hc3 rfl ?_
      refine gx_incC (i := 3) (a := 0) (b := 4294967288) rfl (fun _ => rfl) l1_3 rfl rfl (fun l4 hl4 ml4 => ?_)
      have l4_0 : en_ld l4 0 = some (gx_r 383) := ml4 0 _ l1_0 rfl
      have l4_1 : en_ld l4 1 = some (.inr (.inl v)) := ml4 1 _ l1_1 rfl
      have l4_4 : en_ld l4 4 = some (.inl (sgM v 0)) := ml4 4 _ hl1 rfl
      refine ex_go (S := (3, l4, [], t0, n, 0)) rfl (fun _ => rfl) rfl ?_
      have hq : fd1 len (sgM v 0) = len := fd1_n (by first | decide | omega)
      show en_ex _ _ _ _ _ (fun o => ∃ r, o = .inl r ∧ ∃ t', r = (none, t', n, 0) ∧ ai_HG ah_G t' ∧ ai_hv t' 383 2 = some (.inl (fd1 len (sgM v 0))) ∧ (∀ c i, ¬ ((c = 383 ∧ i = 2) ∨ c = 384) → ai_hv t' c i = ai_hv tb c i))
      rw [hq]
      exact fzM_e _ _ t0 (by first | decide | omega) g0 k0 (fun c i h => e0 c i h) l4_0 l4_1 hl4
    · refine gx_2f (c := .ge) rfl (by first | decide | omega) (by first | decide | omega) hc3 rfl ?_
      refine gx_ld (i := 0) (d := 2) (v := gx_r 383) rfl (fun _ => rfl) l1_0 rfl rfl ?_
      refine gx_ref (c := 384) rfl g0 rfl rfl rfl rfl ?_
      refine gx_ld (i := 0) (d := 2) (v := gx_r 383) rfl (fun _ => rfl) l1_0 rfl rfl ?_
      refine gx_get rfl g0 rfl k0 rfl ?_
      refine gx_ld (i := 4) (d := 0) (v := .inl (sgM v 0)) rfl (fun _ => rfl) hl1 rfl rfl ?_
      refine gx_ap rfl (fun _ => rfl) g0 rfl rfl rfl (show len < 1000 from by omega) (gx_run1 (show len < 1000 from by omega)) (ai_in_h (by first | decide | omega) (by first | decide | omega) (by first | decide | omega)) rfl (fun t105 g105 k105 e105 => ?_)
      have k6 : ai_hv t105 383 2 = some (.inl len) := (e105 383 2 (by first | decide | omega)).trans k0
      refine gx_ld (i := 0) (d := 2) (v := gx_r 383) rfl (fun _ => rfl) l1_0 rfl rfl ?_
      refine ex_go (S := (61, l1, [gx_r 383, gx_r 383], t105, n, 0)) rfl (fun _ => rfl) rfl ?_
      refine gx_get rfl g105 rfl k6 rfl ?_
      refine ex_go (S := (65, l1, [.inl 1, .inl len, gx_r 383], t105, n, 0)) rfl (fun _ => rfl) rfl ?_
      refine ex_iadd rfl (by first | decide | omega) rfl ?_
      refine gx_put rfl g105 rfl rfl (ai_in_h (by first | decide | omega) (by first | decide | omega) (by first | decide | omega)) rfl (fun t107 g107 k107 e107 => ?_)
      refine gx_incC (i := 3) (a := 0) (b := 4294967288) rfl (fun _ => rfl) l1_3 rfl rfl (fun l8 hl8 ml8 => ?_)
      have l8_0 : en_ld l8 0 = some (gx_r 383) := ml8 0 _ l1_0 rfl
      have l8_1 : en_ld l8 1 = some (.inr (.inl v)) := ml8 1 _ l1_1 rfl
      have l8_4 : en_ld l8 4 = some (.inl (sgM v 0)) := ml8 4 _ hl1 rfl
      refine ex_go (S := (3, l8, [], t107, n, 0)) rfl (fun _ => rfl) rfl ?_
      have hq : fd1 len (sgM v 0) = len + 1 := fd1_y (by first | decide | omega) (by first | decide | omega)
      show en_ex _ _ _ _ _ (fun o => ∃ r, o = .inl r ∧ ∃ t', r = (none, t', n, 0) ∧ ai_HG ah_G t' ∧ ai_hv t' 383 2 = some (.inl (fd1 len (sgM v 0))) ∧ (∀ c i, ¬ ((c = 383 ∧ i = 2) ∨ c = 384) → ai_hv t' c i = ai_hv tb c i))
      rw [hq]
      exact fzM_e _ _ t107 (by first | decide | omega) g107 k107 (fun c i h => (e107 c i (by first | decide | omega)).trans ((e105 c i (by first | decide | omega)).trans (e0 c i h))) l8_0 l8_1 hl8
  · refine gx_2f (c := .eq) rfl (by first | decide | omega) (by first | decide | omega) hc2 rfl ?_
    refine gx_ld (i := 4) (d := 0) (v := .inl (sgM v 0)) rfl (fun _ => rfl) hl1 rfl rfl ?_
    refine ex_go (S := (28, l1, [.inl 32, .inl (sgM v 0)], t0, n, 0)) rfl (fun _ => rfl) rfl ?_
    by_cases hc9 : sgM v 0 < 32
    · refine gx_2t (c := .lt) rfl (by first | decide | omega) (by first | decide | omega) hc9 rfl ?_
      refine gx_incC (i := 3) (a := 0) (b := 4294967288) rfl (fun _ => rfl) l1_3 rfl rfl (fun l10 hl10 ml10 => ?_)
      have l10_0 : en_ld l10 0 = some (gx_r 383) := ml10 0 _ l1_0 rfl
      have l10_1 : en_ld l10 1 = some (.inr (.inl v)) := ml10 1 _ l1_1 rfl
      have l10_4 : en_ld l10 4 = some (.inl (sgM v 0)) := ml10 4 _ hl1 rfl
      refine ex_go (S := (3, l10, [], t0, n, 0)) rfl (fun _ => rfl) rfl ?_
      have hq : fd1 len (sgM v 0) = len := fd1_n (by first | decide | omega)
      show en_ex _ _ _ _ _ (fun o => ∃ r, o = .inl r ∧ ∃ t', r = (none, t', n, 0) ∧ ai_HG ah_G t' ∧ ai_hv t' 383 2 = some (.inl (fd1 len (sgM v 0))) ∧ (∀ c i, ¬ ((c = 383 ∧ i = 2) ∨ c = 384) → ai_hv t' c i = ai_hv tb c i))
      rw [hq]
      exact fzM_e _ _ t0 (by first | decide | omega) g0 k0 (fun c i h => e0 c i h) l10_0 l10_1 hl10
    · refine gx_2f (c := .lt) rfl (by first | decide | omega) (by first | decide | omega) hc9 rfl ?_
      refine gx_ld (i := 4) (d := 0) (v := .inl (sgM v 0)) rfl (fun _ => rfl) hl1 rfl rfl ?_
      refine ex_go (S := (35, l1, [.inl 126, .inl (sgM v 0)], t0, n, 0)) rfl (fun _ => rfl) rfl ?_
      by_cases hc11 : 126 < sgM v 0
      · refine gx_2t (c := .gt) rfl (by first | decide | omega) (by first | decide | omega) hc11 rfl ?_
        refine gx_incC (i := 3) (a := 0) (b := 4294967288) rfl (fun _ => rfl) l1_3 rfl rfl (fun l12 hl12 ml12 => ?_)
        have l12_0 : en_ld l12 0 = some (gx_r 383) := ml12 0 _ l1_0 rfl
        have l12_1 : en_ld l12 1 = some (.inr (.inl v)) := ml12 1 _ l1_1 rfl
        have l12_4 : en_ld l12 4 = some (.inl (sgM v 0)) := ml12 4 _ hl1 rfl
        refine ex_go (S := (3, l12, [], t0, n, 0)) rfl (fun _ => rfl) rfl ?_
        have hq : fd1 len (sgM v 0) = len := fd1_n (by first | decide | omega)
        show en_ex _ _ _ _ _ (fun o => ∃ r, o = .inl r ∧ ∃ t', r = (none, t', n, 0) ∧ ai_HG ah_G t' ∧ ai_hv t' 383 2 = some (.inl (fd1 len (sgM v 0))) ∧ (∀ c i, ¬ ((c = 383 ∧ i = 2) ∨ c = 384) → ai_hv t' c i = ai_hv tb c i))
        rw [hq]
        exact fzM_e _ _ t0 (by first | decide | omega) g0 k0 (fun c i h => e0 c i h) l12_0 l12_1 hl12
      · refine gx_2f (c := .gt) rfl (by first | decide | omega) (by first | decide | omega) hc11 rfl ?_
        refine gx_ld (i := 0) (d := 2) (v := gx_r 383) rfl (fun _ => rfl) l1_0 rfl rfl ?_
        refine gx_get rfl g0 rfl k0 rfl ?_
        refine ex_go (S := (45, l1, [.inl 1000, .inl len], t0, n, 0)) rfl (fun _ => rfl) rfl ?_
        by_cases hc13 : 1000 ≤ len
        · refine gx_2t (c := .ge) rfl (by first | decide | omega) (by first | decide | omega) hc13 rfl ?_
          refine gx_incC (i := 3) (a := 0) (b := 4294967288) rfl (fun _ => rfl) l1_3 rfl rfl (fun l14 hl14 ml14 => ?_)
          have l14_0 : en_ld l14 0 = some (gx_r 383) := ml14 0 _ l1_0 rfl
          have l14_1 : en_ld l14 1 = some (.inr (.inl v)) := ml14 1 _ l1_1 rfl
          have l14_4 : en_ld l14 4 = some (.inl (sgM v 0)) := ml14 4 _ hl1 rfl
          refine ex_go (S := (3, l14, [], t0, n, 0)) rfl (fun _ => rfl) rfl ?_
          have hq : fd1 len (sgM v 0) = len := fd1_n (by first | decide | omega)
          show en_ex _ _ _ _ _ (fun o => ∃ r, o = .inl r ∧ ∃ t', r = (none, t', n, 0) ∧ ai_HG ah_G t' ∧ ai_hv t' 383 2 = some (.inl (fd1 len (sgM v 0))) ∧ (∀ c i, ¬ ((c = 383 ∧ i = 2) ∨ c = 384) → ai_hv t' c i = ai_hv tb c i))
          rw [hq]
          exact fzM_e _ _ t0 (by first | decide | omega) g0 k0 (fun c i h => e0 c i h) l14_0 l14_1 hl14
        · refine gx_2f (c := .ge) rfl (by first | decide | omega) (by first | decide | omega) hc13 rfl ?_
          refine gx_ld (i := 0) (d := 2) (v := gx_r 383) rfl (fun _ => rfl) l1_0 rfl rfl ?_
          refine gx_ref (c := 384) rfl g0 rfl rfl rfl rfl ?_
          refine gx_ld (i := 0) (d := 2) (v := gx_r 383) rfl (fun _ => rfl) l1_0 rfl rfl ?_
          refine gx_get rfl g0 rfl k0 rfl ?_
          refine gx_ld (i := 4) (d := 0) (v := .inl (sgM v 0)) rfl (fun _ => rfl) hl1 rfl rfl ?_
          refine gx_ap rfl (fun _ => rfl) g0 rfl rfl rfl (show len < 1000 from by omega) (gx_run1 (show len < 1000 from by omega)) (ai_in_h (by first | decide | omega) (by first | decide | omega) (by first | decide | omega)) rfl (fun t115 g115 k115 e115 => ?_)
          have k16 : ai_hv t115 383 2 = some (.inl len) := (e115 383 2 (by first | decide | omega)).trans k0
          refine gx_ld (i := 0) (d := 2) (v := gx_r 383) rfl (fun _ => rfl) l1_0 rfl rfl ?_
          refine ex_go (S := (61, l1, [gx_r 383, gx_r 383], t115, n, 0)) rfl (fun _ => rfl) rfl ?_
          refine gx_get rfl g115 rfl k16 rfl ?_
          refine ex_go (S := (65, l1, [.inl 1, .inl len, gx_r 383], t115, n, 0)) rfl (fun _ => rfl) rfl ?_
          refine ex_iadd rfl (by first | decide | omega) rfl ?_
          refine gx_put rfl g115 rfl rfl (ai_in_h (by first | decide | omega) (by first | decide | omega) (by first | decide | omega)) rfl (fun t117 g117 k117 e117 => ?_)
          refine gx_incC (i := 3) (a := 0) (b := 4294967288) rfl (fun _ => rfl) l1_3 rfl rfl (fun l18 hl18 ml18 => ?_)
          have l18_0 : en_ld l18 0 = some (gx_r 383) := ml18 0 _ l1_0 rfl
          have l18_1 : en_ld l18 1 = some (.inr (.inl v)) := ml18 1 _ l1_1 rfl
          have l18_4 : en_ld l18 4 = some (.inl (sgM v 0)) := ml18 4 _ hl1 rfl
          refine ex_go (S := (3, l18, [], t117, n, 0)) rfl (fun _ => rfl) rfl ?_
          have hq : fd1 len (sgM v 0) = len + 1 := fd1_y (by first | decide | omega) (by first | decide | omega)
          show en_ex _ _ _ _ _ (fun o => ∃ r, o = .inl r ∧ ∃ t', r = (none, t', n, 0) ∧ ai_HG ah_G t' ∧ ai_hv t' 383 2 = some (.inl (fd1 len (sgM v 0))) ∧ (∀ c i, ¬ ((c = 383 ∧ i = 2) ∨ c = 384) → ai_hv t' c i = ai_hv tb c i))
          rw [hq]
          exact fzM_e _ _ t117 (by first | decide | omega) g117 k117 (fun c i h => (e117 c i (by first | decide | omega)).trans ((e115 c i (by first | decide | omega)).trans (e0 c i h))) l18_0 l18_1 hl18
theorem fzM_8 {fn : en_F} {n v : Nat} {tb : en_H} (len : Nat) (cl : en_L) (t0 : en_H) (hl : len ≤ 1000) (g0 : ai_HG ah_G t0) (k0 : ai_hv t0 383 2 = some (.inl len)) (e0 : (∀ c i, ¬ ((c = 383 ∧ i = 2) ∨ c = 384) → ai_hv t0 c i = ai_hv tb c i)) (h0 : en_ld cl 0 = some (gx_r 383)) (h1 : en_ld cl 1 = some (.inr (.inl v))) (h3 : en_ld cl 3 = some (.inl 8)) : en_ex none fn (en_code 91) (fun _ => false) (3, cl, [], t0, n, 0) (fun o => ∃ r, o = .inl r ∧ ∃ t', r = (none, t', n, 0) ∧ ai_HG ah_G t' ∧ ai_hv t' 383 2 = some (.inl (fdv_8 v len)) ∧ (∀ c i, ¬ ((c = 383 ∧ i = 2) ∨ c = 384) → ai_hv t' c i = ai_hv tb c i)) := by
  have hg := sgM_le v 8
  refine gx_ld (i := 3) (d := 0) (v := .inl 8) rfl (fun _ => rfl) h3 rfl rfl ?_
  refine ex_go (S := (7, cl, [], t0, n, 0)) rfl (fun _ => rfl) rfl ?_
  refine gx_ld (i := 1) (d := 1) (v := .inr (.inl v)) rfl (fun _ => rfl) h1 rfl rfl ?_
  refine gx_ld (i := 3) (d := 0) (v := .inl 8) rfl (fun _ => rfl) h3 rfl rfl ?_
  refine ex_go (S := (10, cl, [.inr (.inl (en_lshr v 8))], t0, n, 0)) rfl (fun _ => rfl) rfl ?_
  refine ex_go (S := (11, cl, [.inl ((lN (en_lshr v 8)).toInt32.toBitVec.toNat)], t0, n, 0)) rfl (fun _ => rfl) rfl ?_
  refine ex_go (S := (14, cl, [.inl 255, .inl ((lN (en_lshr v 8)).toInt32.toBitVec.toNat)], t0, n, 0)) rfl (fun _ => rfl) rfl ?_
  refine ex_go (S := (15, cl, [.inl ((nI ((lN (en_lshr v 8)).toInt32.toBitVec.toNat) &&& nI 255).toBitVec.toNat)], t0, n, 0)) rfl (fun _ => rfl) rfl ?_
  rw [show (nI ((lN (en_lshr v 8)).toInt32.toBitVec.toNat) &&& nI 255).toBitVec.toNat = sgM v 8 from rfl]
  refine gx_sto (i := 4) (d := 0) rfl (fun _ => rfl) rfl rfl (fun l1 hl1 ml1 => ?_)
  have l1_0 : en_ld l1 0 = some (gx_r 383) := ml1 0 _ h0 rfl
  have l1_1 : en_ld l1 1 = some (.inr (.inl v)) := ml1 1 _ h1 rfl
  have l1_3 : en_ld l1 3 = some (.inl 8) := ml1 3 _ h3 rfl
  refine gx_ld (i := 4) (d := 0) (v := .inl (sgM v 8)) rfl (fun _ => rfl) hl1 rfl rfl ?_
  refine ex_go (S := (21, l1, [.inl 10, .inl (sgM v 8)], t0, n, 0)) rfl (fun _ => rfl) rfl ?_
  by_cases hc2 : sgM v 8 = 10
  · refine gx_2t (c := .eq) rfl (by first | decide | omega) (by first | decide | omega) hc2 rfl ?_
    refine gx_ld (i := 0) (d := 2) (v := gx_r 383) rfl (fun _ => rfl) l1_0 rfl rfl ?_
    refine gx_get rfl g0 rfl k0 rfl ?_
    refine ex_go (S := (45, l1, [.inl 1000, .inl len], t0, n, 0)) rfl (fun _ => rfl) rfl ?_
    by_cases hc3 : 1000 ≤ len
    · refine gx_2t (c := .ge) rfl (by first | decide | omega) (by first | decide | omega) hc3 rfl ?_
      refine gx_incC (i := 3) (a := 8) (b := 0) rfl (fun _ => rfl) l1_3 rfl rfl (fun l4 hl4 ml4 => ?_)
      have l4_0 : en_ld l4 0 = some (gx_r 383) := ml4 0 _ l1_0 rfl
      have l4_1 : en_ld l4 1 = some (.inr (.inl v)) := ml4 1 _ l1_1 rfl
      have l4_4 : en_ld l4 4 = some (.inl (sgM v 8)) := ml4 4 _ hl1 rfl
      refine ex_go (S := (3, l4, [], t0, n, 0)) rfl (fun _ => rfl) rfl ?_
      have hq : fd1 len (sgM v 8) = len := fd1_n (by first | decide | omega)
      show en_ex _ _ _ _ _ (fun o => ∃ r, o = .inl r ∧ ∃ t', r = (none, t', n, 0) ∧ ai_HG ah_G t' ∧ ai_hv t' 383 2 = some (.inl (fdv_0 v (fd1 len (sgM v 8)))) ∧ (∀ c i, ¬ ((c = 383 ∧ i = 2) ∨ c = 384) → ai_hv t' c i = ai_hv tb c i))
      rw [hq]
      exact fzM_0 _ _ t0 (by first | decide | omega) g0 k0 (fun c i h => e0 c i h) l4_0 l4_1 hl4
    · refine gx_2f (c := .ge) rfl (by first | decide | omega) (by first | decide | omega) hc3 rfl ?_
      refine gx_ld (i := 0) (d := 2) (v := gx_r 383) rfl (fun _ => rfl) l1_0 rfl rfl ?_
      refine gx_ref (c := 384) rfl g0 rfl rfl rfl rfl ?_
      refine gx_ld (i := 0) (d := 2) (v := gx_r 383) rfl (fun _ => rfl) l1_0 rfl rfl ?_
      refine gx_get rfl g0 rfl k0 rfl ?_
      refine gx_ld (i := 4) (d := 0) (v := .inl (sgM v 8)) rfl (fun _ => rfl) hl1 rfl rfl ?_
      refine gx_ap rfl (fun _ => rfl) g0 rfl rfl rfl (show len < 1000 from by omega) (gx_run1 (show len < 1000 from by omega)) (ai_in_h (by first | decide | omega) (by first | decide | omega) (by first | decide | omega)) rfl (fun t105 g105 k105 e105 => ?_)
      have k6 : ai_hv t105 383 2 = some (.inl len) := (e105 383 2 (by first | decide | omega)).trans k0
      refine gx_ld (i := 0) (d := 2) (v := gx_r 383) rfl (fun _ => rfl) l1_0 rfl rfl ?_
      refine ex_go (S := (61, l1, [gx_r 383, gx_r 383], t105, n, 0)) rfl (fun _ => rfl) rfl ?_
      refine gx_get rfl g105 rfl k6 rfl ?_
      refine ex_go (S := (65, l1, [.inl 1, .inl len, gx_r 383], t105, n, 0)) rfl (fun _ => rfl) rfl ?_
      refine ex_iadd rfl (by first | decide | omega) rfl ?_
      refine gx_put rfl g105 rfl rfl (ai_in_h (by first | decide | omega) (by first | decide | omega) (by first | decide | omega)) rfl (fun t107 g107 k107 e107 => ?_)
      refine gx_incC (i := 3) (a := 8) (b := 0) rfl (fun _ => rfl) l1_3 rfl rfl (fun l8 hl8 ml8 => ?_)
      have l8_0 : en_ld l8 0 = some (gx_r 383) := ml8 0 _ l1_0 rfl
      have l8_1 : en_ld l8 1 = some (.inr (.inl v)) := ml8 1 _ l1_1 rfl
      have l8_4 : en_ld l8 4 = some (.inl (sgM v 8)) := ml8 4 _ hl1 rfl
      refine ex_go (S := (3, l8, [], t107, n, 0)) rfl (fun _ => rfl) rfl ?_
      have hq : fd1 len (sgM v 8) = len + 1 := fd1_y (by first | decide | omega) (by first | decide | omega)
      show en_ex _ _ _ _ _ (fun o => ∃ r, o = .inl r ∧ ∃ t', r = (none, t', n, 0) ∧ ai_HG ah_G t' ∧ ai_hv t' 383 2 = some (.inl (fdv_0 v (fd1 len (sgM v 8)))) ∧ (∀ c i, ¬ ((c = 383 ∧ i = 2) ∨ c = 384) → ai_hv t' c i = ai_hv tb c i))
      rw [hq]
      exact fzM_0 _ _ t107 (by first | decide | omega) g107 k107 (fun c i h => (e107 c i (by first | decide | omega)).trans ((e105 c i (by first | decide | omega)).trans (e0 c i h))) l8_0 l8_1 hl8
  · refine gx_2f (c := .eq) rfl (by first | decide | omega) (by first | decide | omega) hc2 rfl ?_
    refine gx_ld (i := 4) (d := 0) (v := .inl (sgM v 8)) rfl (fun _ => rfl) hl1 rfl rfl ?_
    refine ex_go (S := (28, l1, [.inl 32, .inl (sgM v 8)], t0, n, 0)) rfl (fun _ => rfl) rfl ?_
    by_cases hc9 : sgM v 8 < 32
    · refine gx_2t (c := .lt) rfl (by first | decide | omega) (by first | decide | omega) hc9 rfl ?_
      refine gx_incC (i := 3) (a := 8) (b := 0) rfl (fun _ => rfl) l1_3 rfl rfl (fun l10 hl10 ml10 => ?_)
      have l10_0 : en_ld l10 0 = some (gx_r 383) := ml10 0 _ l1_0 rfl
      have l10_1 : en_ld l10 1 = some (.inr (.inl v)) := ml10 1 _ l1_1 rfl
      have l10_4 : en_ld l10 4 = some (.inl (sgM v 8)) := ml10 4 _ hl1 rfl
      refine ex_go (S := (3, l10, [], t0, n, 0)) rfl (fun _ => rfl) rfl ?_
      have hq : fd1 len (sgM v 8) = len := fd1_n (by first | decide | omega)
      show en_ex _ _ _ _ _ (fun o => ∃ r, o = .inl r ∧ ∃ t', r = (none, t', n, 0) ∧ ai_HG ah_G t' ∧ ai_hv t' 383 2 = some (.inl (fdv_0 v (fd1 len (sgM v 8)))) ∧ (∀ c i, ¬ ((c = 383 ∧ i = 2) ∨ c = 384) → ai_hv t' c i = ai_hv tb c i))
      rw [hq]
      exact fzM_0 _ _ t0 (by first | decide | omega) g0 k0 (fun c i h => e0 c i h) l10_0 l10_1 hl10
    · refine gx_2f (c := .lt) rfl (by first | decide | omega) (by first | decide | omega) hc9 rfl ?_
      refine gx_ld (i := 4) (d := 0) (v := .inl (sgM v 8)) rfl (fun _ => rfl) hl1 rfl rfl ?_
      refine ex_go (S := (35, l1, [.inl 126, .inl (sgM v 8)], t0, n, 0)) rfl (fun _ => rfl) rfl ?_
      by_cases hc11 : 126 < sgM v 8
      · refine gx_2t (c := .gt) rfl (by first | decide | omega) (by first | decide | omega) hc11 rfl ?_
        refine gx_incC (i := 3) (a := 8) (b := 0) rfl (fun _ => rfl) l1_3 rfl rfl (fun l12 hl12 ml12 => ?_)
        have l12_0 : en_ld l12 0 = some (gx_r 383) := ml12 0 _ l1_0 rfl
        have l12_1 : en_ld l12 1 = some (.inr (.inl v)) := ml12 1 _ l1_1 rfl
        have l12_4 : en_ld l12 4 = some (.inl (sgM v 8)) := ml12 4 _ hl1 rfl
        refine ex_go (S := (3, l12, [], t0, n, 0)) rfl (fun _ => rfl) rfl ?_
        have hq : fd1 len (sgM v 8) = len := fd1_n (by first | decide | omega)
        show en_ex _ _ _ _ _ (fun o => ∃ r, o = .inl r ∧ ∃ t', r = (none, t', n, 0) ∧ ai_HG ah_G t' ∧ ai_hv t' 383 2 = some (.inl (fdv_0 v (fd1 len (sgM v 8)))) ∧ (∀ c i, ¬ ((c = 383 ∧ i = 2) ∨ c = 384) → ai_hv t' c i = ai_hv tb c i))
        rw [hq]
        exact fzM_0 _ _ t0 (by first | decide | omega) g0 k0 (fun c i h => e0 c i h) l12_0 l12_1 hl12
      · refine gx_2f (c := .gt) rfl (by first | decide | omega) (by first | decide | omega) hc11 rfl ?_
        refine gx_ld (i := 0) (d := 2) (v := gx_r 383) rfl (fun _ => rfl) l1_0 rfl rfl ?_
        refine gx_get rfl g0 rfl k0 rfl ?_
        refine ex_go (S := (45, l1, [.inl 1000, .inl len], t0, n, 0)) rfl (fun _ => rfl) rfl ?_
        by_cases hc13 : 1000 ≤ len
        · refine gx_2t (c := .ge) rfl (by first | decide | omega) (by first | decide | omega) hc13 rfl ?_
          refine gx_incC (i := 3) (a := 8) (b := 0) rfl (fun _ => rfl) l1_3 rfl rfl (fun l14 hl14 ml14 => ?_)
          have l14_0 : en_ld l14 0 = some (gx_r 383) := ml14 0 _ l1_0 rfl
          have l14_1 : en_ld l14 1 = some (.inr (.inl v)) := ml14 1 _ l1_1 rfl
          have l14_4 : en_ld l14 4 = some (.inl (sgM v 8)) := ml14 4 _ hl1 rfl
          refine ex_go (S := (3, l14, [], t0, n, 0)) rfl (fun _ => rfl) rfl ?_
          have hq : fd1 len (sgM v 8) = len := fd1_n (by first | decide | omega)
          show en_ex _ _ _ _ _ (fun o => ∃ r, o = .inl r ∧ ∃ t', r = (none, t', n, 0) ∧ ai_HG ah_G t' ∧ ai_hv t' 383 2 = some (.inl (fdv_0 v (fd1 len (sgM v 8)))) ∧ (∀ c i, ¬ ((c = 383 ∧ i = 2) ∨ c = 384) → ai_hv t' c i = ai_hv tb c i))
          rw [hq]
          exact fzM_0 _ _ t0 (by first | decide | omega) g0 k0 (fun c i h => e0 c i h) l14_0 l14_1 hl14
        · refine gx_2f (c := .ge) rfl (by first | decide | omega) (by first | decide | omega) hc13 rfl ?_
          refine gx_ld (i := 0) (d := 2) (v := gx_r 383) rfl (fun _ => rfl) l1_0 rfl rfl ?_
          refine gx_ref (c := 384) rfl g0 rfl rfl rfl rfl ?_
          refine gx_ld (i := 0) (d := 2) (v := gx_r 383) rfl (fun _ => rfl) l1_0 rfl rfl ?_
          refine gx_get rfl g0 rfl k0 rfl ?_
          refine gx_ld (i := 4) (d := 0) (v := .inl (sgM v 8)) rfl (fun _ => rfl) hl1 rfl rfl ?_
          refine gx_ap rfl (fun _ => rfl) g0 rfl rfl rfl (show len < 1000 from by omega) (gx_run1 (show len < 1000 from by omega)) (ai_in_h (by first | decide | omega) (by first | decide | omega) (by first | decide | omega)) rfl (fun t115 g115 k115 e115 => ?_)
          have k16 : ai_hv t115 383 2 = some (.inl len) := (e115 383 2 (by first | decide | omega)).trans k0
          refine gx_ld (i := 0) (d := 2) (v := gx_r 383) rfl (fun _ => rfl) l1_0 rfl rfl ?_
          refine ex_go (S := (61, l1, [gx_r 383, gx_r 383], t115, n, 0)) rfl (fun _ => rfl) rfl ?_
          refine gx_get rfl g115 rfl k16 rfl ?_
          refine ex_go (S := (65, l1, [.inl 1, .inl len, gx_r 383], t115, n, 0)) rfl (fun _ => rfl) rfl ?_
          refine ex_iadd rfl (by first | decide | omega) rfl ?_
          refine gx_put rfl g115 rfl rfl (ai_in_h (by first | decide | omega) (by first | decide | omega) (by first | decide | omega)) rfl (fun t117 g117 k117 e117 => ?_)
          refine gx_incC (i := 3) (a := 8) (b := 0) rfl (fun _ => rfl) l1_3 rfl rfl (fun l18 hl18 ml18 => ?_)
          have l18_0 : en_ld l18 0 = some (gx_r 383) := ml18 0 _ l1_0 rfl
          have l18_1 : en_ld l18 1 = some (.inr (.inl v)) := ml18 1 _ l1_1 rfl
          have l18_4 : en_ld l18 4 = some (.inl (sgM v 8)) := ml18 4 _ hl1 rfl
          refine ex_go (S := (3, l18, [], t117, n, 0)) rfl (fun _ => rfl) rfl ?_
          have hq : fd1 len (sgM v 8) = len + 1 := fd1_y (by first | decide | omega) (by first | decide | omega)
          show en_ex _ _ _ _ _ (fun o => ∃ r, o = .inl r ∧ ∃ t', r = (none, t', n, 0) ∧ ai_HG ah_G t' ∧ ai_hv t' 383 2 = some (.inl (fdv_0 v (fd1 len (sgM v 8)))) ∧ (∀ c i, ¬ ((c = 383 ∧ i = 2) ∨ c = 384) → ai_hv t' c i = ai_hv tb c i))
          rw [hq]
          exact fzM_0 _ _ t117 (by first | decide | omega) g117 k117 (fun c i h => (e117 c i (by first | decide | omega)).trans ((e115 c i (by first | decide | omega)).trans (e0 c i h))) l18_0 l18_1 hl18
theorem fzM_16 {fn : en_F} {n v : Nat} {tb : en_H} (len : Nat) (cl : en_L) (t0 : en_H) (hl : len ≤ 1000) (g0 : ai_HG ah_G t0) (k0 : ai_hv t0 383 2 = some (.inl len)) (e0 : (∀ c i, ¬ ((c = 383 ∧ i = 2) ∨ c = 384) → ai_hv t0 c i = ai_hv tb c i)) (h0 : en_ld cl 0 = some (gx_r 383)) (h1 : en_ld cl 1 = some (.inr (.inl v))) (h3 : en_ld cl 3 = some (.inl 16)) : en_ex none fn (en_code 91) (fun _ => false) (3, cl, [], t0, n, 0) (fun o => ∃ r, o = .inl r ∧ ∃ t', r = (none, t', n, 0) ∧ ai_HG ah_G t' ∧ ai_hv t' 383 2 = some (.inl (fdv_16 v len)) ∧ (∀ c i, ¬ ((c = 383 ∧ i = 2) ∨ c = 384) → ai_hv t' c i = ai_hv tb c i)) := by
  have hg := sgM_le v 16
  refine gx_ld (i := 3) (d := 0) (v := .inl 16) rfl (fun _ => rfl) h3 rfl rfl ?_
  refine ex_go (S := (7, cl, [], t0, n, 0)) rfl (fun _ => rfl) rfl ?_
  refine gx_ld (i := 1) (d := 1) (v := .inr (.inl v)) rfl (fun _ => rfl) h1 rfl rfl ?_
  refine gx_ld (i := 3) (d := 0) (v := .inl 16) rfl (fun _ => rfl) h3 rfl rfl ?_
  refine ex_go (S := (10, cl, [.inr (.inl (en_lshr v 16))], t0, n, 0)) rfl (fun _ => rfl) rfl ?_
  refine ex_go (S := (11, cl, [.inl ((lN (en_lshr v 16)).toInt32.toBitVec.toNat)], t0, n, 0)) rfl (fun _ => rfl) rfl ?_
  refine ex_go (S := (14, cl, [.inl 255, .inl ((lN (en_lshr v 16)).toInt32.toBitVec.toNat)], t0, n, 0)) rfl (fun _ => rfl) rfl ?_
  refine ex_go (S := (15, cl, [.inl ((nI ((lN (en_lshr v 16)).toInt32.toBitVec.toNat) &&& nI 255).toBitVec.toNat)], t0, n, 0)) rfl (fun _ => rfl) rfl ?_
  rw [show (nI ((lN (en_lshr v 16)).toInt32.toBitVec.toNat) &&& nI 255).toBitVec.toNat = sgM v 16 from rfl]
  refine gx_sto (i := 4) (d := 0) rfl (fun _ => rfl) rfl rfl (fun l1 hl1 ml1 => ?_)
  have l1_0 : en_ld l1 0 = some (gx_r 383) := ml1 0 _ h0 rfl
  have l1_1 : en_ld l1 1 = some (.inr (.inl v)) := ml1 1 _ h1 rfl
  have l1_3 : en_ld l1 3 = some (.inl 16) := ml1 3 _ h3 rfl
  refine gx_ld (i := 4) (d := 0) (v := .inl (sgM v 16)) rfl (fun _ => rfl) hl1 rfl rfl ?_
  refine ex_go (S := (21, l1, [.inl 10, .inl (sgM v 16)], t0, n, 0)) rfl (fun _ => rfl) rfl ?_
  by_cases hc2 : sgM v 16 = 10
  · refine gx_2t (c := .eq) rfl (by first | decide | omega) (by first | decide | omega) hc2 rfl ?_
    refine gx_ld (i := 0) (d := 2) (v := gx_r 383) rfl (fun _ => rfl) l1_0 rfl rfl ?_
    refine gx_get rfl g0 rfl k0 rfl ?_
    refine ex_go (S := (45, l1, [.inl 1000, .inl len], t0, n, 0)) rfl (fun _ => rfl) rfl ?_
    by_cases hc3 : 1000 ≤ len
    · refine gx_2t (c := .ge) rfl (by first | decide | omega) (by first | decide | omega) hc3 rfl ?_
      refine gx_incC (i := 3) (a := 16) (b := 8) rfl (fun _ => rfl) l1_3 rfl rfl (fun l4 hl4 ml4 => ?_)
      have l4_0 : en_ld l4 0 = some (gx_r 383) := ml4 0 _ l1_0 rfl
      have l4_1 : en_ld l4 1 = some (.inr (.inl v)) := ml4 1 _ l1_1 rfl
      have l4_4 : en_ld l4 4 = some (.inl (sgM v 16)) := ml4 4 _ hl1 rfl
      refine ex_go (S := (3, l4, [], t0, n, 0)) rfl (fun _ => rfl) rfl ?_
      have hq : fd1 len (sgM v 16) = len := fd1_n (by first | decide | omega)
      show en_ex _ _ _ _ _ (fun o => ∃ r, o = .inl r ∧ ∃ t', r = (none, t', n, 0) ∧ ai_HG ah_G t' ∧ ai_hv t' 383 2 = some (.inl (fdv_8 v (fd1 len (sgM v 16)))) ∧ (∀ c i, ¬ ((c = 383 ∧ i = 2) ∨ c = 384) → ai_hv t' c i = ai_hv tb c i))
      rw [hq]
      exact fzM_8 _ _ t0 (by first | decide | omega) g0 k0 (fun c i h => e0 c i h) l4_0 l4_1 hl4
    · refine gx_2f (c := .ge) rfl (by first | decide | omega) (by first | decide | omega) hc3 rfl ?_
      refine gx_ld (i := 0) (d := 2) (v := gx_r 383) rfl (fun _ => rfl) l1_0 rfl rfl ?_
      refine gx_ref (c := 384) rfl g0 rfl rfl rfl rfl ?_
      refine gx_ld (i := 0) (d := 2) (v := gx_r 383) rfl (fun _ => rfl) l1_0 rfl rfl ?_
      refine gx_get rfl g0 rfl k0 rfl ?_
      refine gx_ld (i := 4) (d := 0) (v := .inl (sgM v 16)) rfl (fun _ => rfl) hl1 rfl rfl ?_
      refine gx_ap rfl (fun _ => rfl) g0 rfl rfl rfl (show len < 1000 from by omega) (gx_run1 (show len < 1000 from by omega)) (ai_in_h (by first | decide | omega) (by first | decide | omega) (by first | decide | omega)) rfl (fun t105 g105 k105 e105 => ?_)
      have k6 : ai_hv t105 383 2 = some (.inl len) := (e105 383 2 (by first | decide | omega)).trans k0
      refine gx_ld (i := 0) (d := 2) (v := gx_r 383) rfl (fun _ => rfl) l1_0 rfl rfl ?_
      refine ex_go (S := (61, l1, [gx_r 383, gx_r 383], t105, n, 0)) rfl (fun _ => rfl) rfl ?_
      refine gx_get rfl g105 rfl k6 rfl ?_
      refine ex_go (S := (65, l1, [.inl 1, .inl len, gx_r 383], t105, n, 0)) rfl (fun _ => rfl) rfl ?_
      refine ex_iadd rfl (by first | decide | omega) rfl ?_
      refine gx_put rfl g105 rfl rfl (ai_in_h (by first | decide | omega) (by first | decide | omega) (by first | decide | omega)) rfl (fun t107 g107 k107 e107 => ?_)
      refine gx_incC (i := 3) (a := 16) (b := 8) rfl (fun _ => rfl) l1_3 rfl rfl (fun l8 hl8 ml8 => ?_)
      have l8_0 : en_ld l8 0 = some (gx_r 383) := ml8 0 _ l1_0 rfl
      have l8_1 : en_ld l8 1 = some (.inr (.inl v)) := ml8 1 _ l1_1 rfl
      have l8_4 : en_ld l8 4 = some (.inl (sgM v 16)) := ml8 4 _ hl1 rfl
      refine ex_go (S := (3, l8, [], t107, n, 0)) rfl (fun _ => rfl) rfl ?_
      have hq : fd1 len (sgM v 16) = len + 1 := fd1_y (by first | decide | omega) (by first | decide | omega)
      show en_ex _ _ _ _ _ (fun o => ∃ r, o = .inl r ∧ ∃ t', r = (none, t', n, 0) ∧ ai_HG ah_G t' ∧ ai_hv t' 383 2 = some (.inl (fdv_8 v (fd1 len (sgM v 16)))) ∧ (∀ c i, ¬ ((c = 383 ∧ i = 2) ∨ c = 384) → ai_hv t' c i = ai_hv tb c i))
      rw [hq]
      exact fzM_8 _ _ t107 (by first | decide | omega) g107 k107 (fun c i h => (e107 c i (by first | decide | omega)).trans ((e105 c i (by first | decide | omega)).trans (e0 c i h))) l8_0 l8_1 hl8
  · refine gx_2f (c := .eq) rfl (by first | decide | omega) (by first | decide | omega) hc2 rfl ?_
    refine gx_ld (i := 4) (d := 0) (v := .inl (sgM v 16)) rfl (fun _ => rfl) hl1 rfl rfl ?_
    refine ex_go (S := (28, l1, [.inl 32, .inl (sgM v 16)], t0, n, 0)) rfl (fun _ => rfl) rfl ?_
    by_cases hc9 : sgM v 16 < 32
    · refine gx_2t (c := .lt) rfl (by first | decide | omega) (by first | decide | omega) hc9 rfl ?_
      refine gx_incC (i := 3) (a := 16) (b := 8) rfl (fun _ => rfl) l1_3 rfl rfl (fun l10 hl10 ml10 => ?_)
      have l10_0 : en_ld l10 0 = some (gx_r 383) := ml10 0 _ l1_0 rfl
      have l10_1 : en_ld l10 1 = some (.inr (.inl v)) := ml10 1 _ l1_1 rfl
      have l10_4 : en_ld l10 4 = some (.inl (sgM v 16)) := ml10 4 _ hl1 rfl
      refine ex_go (S := (3, l10, [], t0, n, 0)) rfl (fun _ => rfl) rfl ?_
      have hq : fd1 len (sgM v 16) = len := fd1_n (by first | decide | omega)
      show en_ex _ _ _ _ _ (fun o => ∃ r, o = .inl r ∧ ∃ t', r = (none, t', n, 0) ∧ ai_HG ah_G t' ∧ ai_hv t' 383 2 = some (.inl (fdv_8 v (fd1 len (sgM v 16)))) ∧ (∀ c i, ¬ ((c = 383 ∧ i = 2) ∨ c = 384) → ai_hv t' c i = ai_hv tb c i))
      rw [hq]
      exact fzM_8 _ _ t0 (by first | decide | omega) g0 k0 (fun c i h => e0 c i h) l10_0 l10_1 hl10
    · refine gx_2f (c := .lt) rfl (by first | decide | omega) (by first | decide | omega) hc9 rfl ?_
      refine gx_ld (i := 4) (d := 0) (v := .inl (sgM v 16)) rfl (fun _ => rfl) hl1 rfl rfl ?_
      refine ex_go (S := (35, l1, [.inl 126, .inl (sgM v 16)], t0, n, 0)) rfl (fun _ => rfl) rfl ?_
      by_cases hc11 : 126 < sgM v 16
      · refine gx_2t (c := .gt) rfl (by first | decide | omega) (by first | decide | omega) hc11 rfl ?_
        refine gx_incC (i := 3) (a := 16) (b := 8) rfl (fun _ => rfl) l1_3 rfl rfl (fun l12 hl12 ml12 => ?_)
        have l12_0 : en_ld l12 0 = some (gx_r 383) := ml12 0 _ l1_0 rfl
        have l12_1 : en_ld l12 1 = some (.inr (.inl v)) := ml12 1 _ l1_1 rfl
        have l12_4 : en_ld l12 4 = some (.inl (sgM v 16)) := ml12 4 _ hl1 rfl
        refine ex_go (S := (3, l12, [], t0, n, 0)) rfl (fun _ => rfl) rfl ?_
        have hq : fd1 len (sgM v 16) = len := fd1_n (by first | decide | omega)
        show en_ex _ _ _ _ _ (fun o => ∃ r, o = .inl r ∧ ∃ t', r = (none, t', n, 0) ∧ ai_HG ah_G t' ∧ ai_hv t' 383 2 = some (.inl (fdv_8 v (fd1 len (sgM v 16)))) ∧ (∀ c i, ¬ ((c = 383 ∧ i = 2) ∨ c = 384) → ai_hv t' c i = ai_hv tb c i))
        rw [hq]
        exact fzM_8 _ _ t0 (by first | decide | omega) g0 k0 (fun c i h => e0 c i h) l12_0 l12_1 hl12
      · refine gx_2f (c := .gt) rfl (by first | decide | omega) (by first | decide | omega) hc11 rfl ?_
        refine gx_ld (i := 0) (d := 2) (v := gx_r 383) rfl (fun _ => rfl) l1_0 rfl rfl ?_
        refine gx_get rfl g0 rfl k0 rfl ?_
        refine ex_go (S := (45, l1, [.inl 1000, .inl len], t0, n, 0)) rfl (fun _ => rfl) rfl ?_
        by_cases hc13 : 1000 ≤ len
        · refine gx_2t (c := .ge) rfl (by first | decide | omega) (by first | decide | omega) hc13 rfl ?_
          refine gx_incC (i := 3) (a := 16) (b := 8) rfl (fun _ => rfl) l1_3 rfl rfl (fun l14 hl14 ml14 => ?_)
          have l14_0 : en_ld l14 0 = some (gx_r 383) := ml14 0 _ l1_0 rfl
          have l14_1 : en_ld l14 1 = some (.inr (.inl v)) := ml14 1 _ l1_1 rfl
          have l14_4 : en_ld l14 4 = some (.inl (sgM v 16)) := ml14 4 _ hl1 rfl
          refine ex_go (S := (3, l14, [], t0, n, 0)) rfl (fun _ => rfl) rfl ?_
          have hq : fd1 len (sgM v 16) = len := fd1_n (by first | decide | omega)
          show en_ex _ _ _ _ _ (fun o => ∃ r, o = .inl r ∧ ∃ t', r = (none, t', n, 0) ∧ ai_HG ah_G t' ∧ ai_hv t' 383 2 = some (.inl (fdv_8 v (fd1 len (sgM v 16)))) ∧ (∀ c i, ¬ ((c = 383 ∧ i = 2) ∨ c = 384) → ai_hv t' c i = ai_hv tb c i))
          rw [hq]
          exact fzM_8 _ _ t0 (by first | decide | omega) g0 k0 (fun c i h => e0 c i h) l14_0 l14_1 hl14
        · refine gx_2f (c := .ge) rfl (by first | decide | omega) (by first | decide | omega) hc13 rfl ?_
          refine gx_ld (i := 0) (d := 2) (v := gx_r 383) rfl (fun _ => rfl) l1_0 rfl rfl ?_
          refine gx_ref (c := 384) rfl g0 rfl rfl rfl rfl ?_
          refine gx_ld (i := 0) (d := 2) (v := gx_r 383) rfl (fun _ => rfl) l1_0 rfl rfl ?_
          refine gx_get rfl g0 rfl k0 rfl ?_
          refine gx_ld (i := 4) (d := 0) (v := .inl (sgM v 16)) rfl (fun _ => rfl) hl1 rfl rfl ?_
          refine gx_ap rfl (fun _ => rfl) g0 rfl rfl rfl (show len < 1000 from by omega) (gx_run1 (show len < 1000 from by omega)) (ai_in_h (by first | decide | omega) (by first | decide | omega) (by first | decide | omega)) rfl (fun t115 g115 k115 e115 => ?_)
          have k16 : ai_hv t115 383 2 = some (.inl len) := (e115 383 2 (by first | decide | omega)).trans k0
          refine gx_ld (i := 0) (d := 2) (v := gx_r 383) rfl (fun _ => rfl) l1_0 rfl rfl ?_
          refine ex_go (S := (61, l1, [gx_r 383, gx_r 383], t115, n, 0)) rfl (fun _ => rfl) rfl ?_
          refine gx_get rfl g115 rfl k16 rfl ?_
          refine ex_go (S := (65, l1, [.inl 1, .inl len, gx_r 383], t115, n, 0)) rfl (fun _ => rfl) rfl ?_
          refine ex_iadd rfl (by first | decide | omega) rfl ?_
          refine gx_put rfl g115 rfl rfl (ai_in_h (by first | decide | omega) (by first | decide | omega) (by first | decide | omega)) rfl (fun t117 g117 k117 e117 => ?_)
          refine gx_incC (i := 3) (a := 16) (b := 8) rfl (fun _ => rfl) l1_3 rfl rfl (fun l18 hl18 ml18 => ?_)
          have l18_0 : en_ld l18 0 = some (gx_r 383) := ml18 0 _ l1_0 rfl
          have l18_1 : en_ld l18 1 = some (.inr (.inl v)) := ml18 1 _ l1_1 rfl
          have l18_4 : en_ld l18 4 = some (.inl (sgM v 16)) := ml18 4 _ hl1 rfl
          refine ex_go (S := (3, l18, [], t117, n, 0)) rfl (fun _ => rfl) rfl ?_
          have hq : fd1 len (sgM v 16) = len + 1 := fd1_y (by first | decide | omega) (by first | decide | omega)
          show en_ex _ _ _ _ _ (fun o => ∃ r, o = .inl r ∧ ∃ t', r = (none, t', n, 0) ∧ ai_HG ah_G t' ∧ ai_hv t' 383 2 = some (.inl (fdv_8 v (fd1 len (sgM v 16)))) ∧ (∀ c i, ¬ ((c = 383 ∧ i = 2) ∨ c = 384) → ai_hv t' c i = ai_hv tb c i))
          rw [hq]
          exact fzM_8 _ _ t117 (by first | decide | omega) g117 k117 (fun c i h => (e117 c i (by first | decide | omega)).trans ((e115 c i (by first | decide | omega)).trans (e0 c i h))) l18_0 l18_1 hl18
theorem fzM_24 {fn : en_F} {n v : Nat} {tb : en_H} (len : Nat) (cl : en_L) (t0 : en_H) (hl : len ≤ 1000) (g0 : ai_HG ah_G t0) (k0 : ai_hv t0 383 2 = some (.inl len)) (e0 : (∀ c i, ¬ ((c = 383 ∧ i = 2) ∨ c = 384) → ai_hv t0 c i = ai_hv tb c i)) (h0 : en_ld cl 0 = some (gx_r 383)) (h1 : en_ld cl 1 = some (.inr (.inl v))) (h3 : en_ld cl 3 = some (.inl 24)) : en_ex none fn (en_code 91) (fun _ => false) (3, cl, [], t0, n, 0) (fun o => ∃ r, o = .inl r ∧ ∃ t', r = (none, t', n, 0) ∧ ai_HG ah_G t' ∧ ai_hv t' 383 2 = some (.inl (fdv_24 v len)) ∧ (∀ c i, ¬ ((c = 383 ∧ i = 2) ∨ c = 384) → ai_hv t' c i = ai_hv tb c i)) := by
  have hg := sgM_le v 24
  refine gx_ld (i := 3) (d := 0) (v := .inl 24) rfl (fun _ => rfl) h3 rfl rfl ?_
  refine ex_go (S := (7, cl, [], t0, n, 0)) rfl (fun _ => rfl) rfl ?_
  refine gx_ld (i := 1) (d := 1) (v := .inr (.inl v)) rfl (fun _ => rfl) h1 rfl rfl ?_
  refine gx_ld (i := 3) (d := 0) (v := .inl 24) rfl (fun _ => rfl) h3 rfl rfl ?_
  refine ex_go (S := (10, cl, [.inr (.inl (en_lshr v 24))], t0, n, 0)) rfl (fun _ => rfl) rfl ?_
  refine ex_go (S := (11, cl, [.inl ((lN (en_lshr v 24)).toInt32.toBitVec.toNat)], t0, n, 0)) rfl (fun _ => rfl) rfl ?_
  refine ex_go (S := (14, cl, [.inl 255, .inl ((lN (en_lshr v 24)).toInt32.toBitVec.toNat)], t0, n, 0)) rfl (fun _ => rfl) rfl ?_
  refine ex_go (S := (15, cl, [.inl ((nI ((lN (en_lshr v 24)).toInt32.toBitVec.toNat) &&& nI 255).toBitVec.toNat)], t0, n, 0)) rfl (fun _ => rfl) rfl ?_
  rw [show (nI ((lN (en_lshr v 24)).toInt32.toBitVec.toNat) &&& nI 255).toBitVec.toNat = sgM v 24 from rfl]
  refine gx_sto (i := 4) (d := 0) rfl (fun _ => rfl) rfl rfl (fun l1 hl1 ml1 => ?_)
  have l1_0 : en_ld l1 0 = some (gx_r 383) := ml1 0 _ h0 rfl
  have l1_1 : en_ld l1 1 = some (.inr (.inl v)) := ml1 1 _ h1 rfl
  have l1_3 : en_ld l1 3 = some (.inl 24) := ml1 3 _ h3 rfl
  refine gx_ld (i := 4) (d := 0) (v := .inl (sgM v 24)) rfl (fun _ => rfl) hl1 rfl rfl ?_
  refine ex_go (S := (21, l1, [.inl 10, .inl (sgM v 24)], t0, n, 0)) rfl (fun _ => rfl) rfl ?_
  by_cases hc2 : sgM v 24 = 10
  · refine gx_2t (c := .eq) rfl (by first | decide | omega) (by first | decide | omega) hc2 rfl ?_
    refine gx_ld (i := 0) (d := 2) (v := gx_r 383) rfl (fun _ => rfl) l1_0 rfl rfl ?_
    refine gx_get rfl g0 rfl k0 rfl ?_
    refine ex_go (S := (45, l1, [.inl 1000, .inl len], t0, n, 0)) rfl (fun _ => rfl) rfl ?_
    by_cases hc3 : 1000 ≤ len
    · refine gx_2t (c := .ge) rfl (by first | decide | omega) (by first | decide | omega) hc3 rfl ?_
      refine gx_incC (i := 3) (a := 24) (b := 16) rfl (fun _ => rfl) l1_3 rfl rfl (fun l4 hl4 ml4 => ?_)
      have l4_0 : en_ld l4 0 = some (gx_r 383) := ml4 0 _ l1_0 rfl
      have l4_1 : en_ld l4 1 = some (.inr (.inl v)) := ml4 1 _ l1_1 rfl
      have l4_4 : en_ld l4 4 = some (.inl (sgM v 24)) := ml4 4 _ hl1 rfl
      refine ex_go (S := (3, l4, [], t0, n, 0)) rfl (fun _ => rfl) rfl ?_
      have hq : fd1 len (sgM v 24) = len := fd1_n (by first | decide | omega)
      show en_ex _ _ _ _ _ (fun o => ∃ r, o = .inl r ∧ ∃ t', r = (none, t', n, 0) ∧ ai_HG ah_G t' ∧ ai_hv t' 383 2 = some (.inl (fdv_16 v (fd1 len (sgM v 24)))) ∧ (∀ c i, ¬ ((c = 383 ∧ i = 2) ∨ c = 384) → ai_hv t' c i = ai_hv tb c i))
      rw [hq]
      exact fzM_16 _ _ t0 (by first | decide | omega) g0 k0 (fun c i h => e0 c i h) l4_0 l4_1 hl4
    · refine gx_2f (c := .ge) rfl (by first | decide | omega) (by first | decide | omega) hc3 rfl ?_
      refine gx_ld (i := 0) (d := 2) (v := gx_r 383) rfl (fun _ => rfl) l1_0 rfl rfl ?_
      refine gx_ref (c := 384) rfl g0 rfl rfl rfl rfl ?_
      refine gx_ld (i := 0) (d := 2) (v := gx_r 383) rfl (fun _ => rfl) l1_0 rfl rfl ?_
      refine gx_get rfl g0 rfl k0 rfl ?_
      refine gx_ld (i := 4) (d := 0) (v := .inl (sgM v 24)) rfl (fun _ => rfl) hl1 rfl rfl ?_
      refine gx_ap rfl (fun _ => rfl) g0 rfl rfl rfl (show len < 1000 from by omega) (gx_run1 (show len < 1000 from by omega)) (ai_in_h (by first | decide | omega) (by first | decide | omega) (by first | decide | omega)) rfl (fun t105 g105 k105 e105 => ?_)
      have k6 : ai_hv t105 383 2 = some (.inl len) := (e105 383 2 (by first | decide | omega)).trans k0
      refine gx_ld (i := 0) (d := 2) (v := gx_r 383) rfl (fun _ => rfl) l1_0 rfl rfl ?_
      refine ex_go (S := (61, l1, [gx_r 383, gx_r 383], t105, n, 0)) rfl (fun _ => rfl) rfl ?_
      refine gx_get rfl g105 rfl k6 rfl ?_
      refine ex_go (S := (65, l1, [.inl 1, .inl len, gx_r 383], t105, n, 0)) rfl (fun _ => rfl) rfl ?_
      refine ex_iadd rfl (by first | decide | omega) rfl ?_
      refine gx_put rfl g105 rfl rfl (ai_in_h (by first | decide | omega) (by first | decide | omega) (by first | decide | omega)) rfl (fun t107 g107 k107 e107 => ?_)
      refine gx_incC (i := 3) (a := 24) (b := 16) rfl (fun _ => rfl) l1_3 rfl rfl (fun l8 hl8 ml8 => ?_)
      have l8_0 : en_ld l8 0 = some (gx_r 383) := ml8 0 _ l1_0 rfl
      have l8_1 : en_ld l8 1 = some (.inr (.inl v)) := ml8 1 _ l1_1 rfl
      have l8_4 : en_ld l8 4 = some (.inl (sgM v 24)) := ml8 4 _ hl1 rfl
      refine ex_go (S := (3, l8, [], t107, n, 0)) rfl (fun _ => rfl) rfl ?_
      have hq : fd1 len (sgM v 24) = len + 1 := fd1_y (by first | decide | omega) (by first | decide | omega)
      show en_ex _ _ _ _ _ (fun o => ∃ r, o = .inl r ∧ ∃ t', r = (none, t', n, 0) ∧ ai_HG ah_G t' ∧ ai_hv t' 383 2 = some (.inl (fdv_16 v (fd1 len (sgM v 24)))) ∧ (∀ c i, ¬ ((c = 383 ∧ i = 2) ∨ c = 384) → ai_hv t' c i = ai_hv tb c i))
      rw [hq]
      exact fzM_16 _ _ t107 (by first | decide | omega) g107 k107 (fun c i h => (e107 c i (by first | decide | omega)).trans ((e105 c i (by first | decide | omega)).trans (e0 c i h))) l8_0 l8_1 hl8
  · refine gx_2f (c := .eq) rfl (by first | decide | omega) (by first | decide | omega) hc2 rfl ?_
    refine gx_ld (i := 4) (d := 0) (v := .inl (sgM v 24)) rfl (fun _ => rfl) hl1 rfl rfl ?_
    refine ex_go (S := (28, l1, [.inl 32, .inl (sgM v 24)], t0, n, 0)) rfl (fun _ => rfl) rfl ?_
    by_cases hc9 : sgM v 24 < 32
    · refine gx_2t (c := .lt) rfl (by first | decide | omega) (by first | decide | omega) hc9 rfl ?_
      refine gx_incC (i := 3) (a := 24) (b := 16) rfl (fun _ => rfl) l1_3 rfl rfl (fun l10 hl10 ml10 => ?_)
      have l10_0 : en_ld l10 0 = some (gx_r 383) := ml10 0 _ l1_0 rfl
      have l10_1 : en_ld l10 1 = some (.inr (.inl v)) := ml10 1 _ l1_1 rfl
      have l10_4 : en_ld l10 4 = some (.inl (sgM v 24)) := ml10 4 _ hl1 rfl
      refine ex_go (S := (3, l10, [], t0, n, 0)) rfl (fun _ => rfl) rfl ?_
      have hq : fd1 len (sgM v 24) = len := fd1_n (by first | decide | omega)
      show en_ex _ _ _ _ _ (fun o => ∃ r, o = .inl r ∧ ∃ t', r = (none, t', n, 0) ∧ ai_HG ah_G t' ∧ ai_hv t' 383 2 = some (.inl (fdv_16 v (fd1 len (sgM v 24)))) ∧ (∀ c i, ¬ ((c = 383 ∧ i = 2) ∨ c = 384) → ai_hv t' c i = ai_hv tb c i))
      rw [hq]
      exact fzM_16 _ _ t0 (by first | decide | omega) g0 k0 (fun c i h => e0 c i h) l10_0 l10_1 hl10
    · refine gx_2f (c := .lt) rfl (by first | decide | omega) (by first | decide | omega) hc9 rfl ?_
      refine gx_ld (i := 4) (d := 0) (v := .inl (sgM v 24)) rfl (fun _ => rfl) hl1 rfl rfl ?_
      refine ex_go (S := (35, l1, [.inl 126, .inl (sgM v 24)], t0, n, 0)) rfl (fun _ => rfl) rfl ?_
      by_cases hc11 : 126 < sgM v 24
      · refine gx_2t (c := .gt) rfl (by first | decide | omega) (by first | decide | omega) hc11 rfl ?_
        refine gx_incC (i := 3) (a := 24) (b := 16) rfl (fun _ => rfl) l1_3 rfl rfl (fun l12 hl12 ml12 => ?_)
        have l12_0 : en_ld l12 0 = some (gx_r 383) := ml12 0 _ l1_0 rfl
        have l12_1 : en_ld l12 1 = some (.inr (.inl v)) := ml12 1 _ l1_1 rfl
        have l12_4 : en_ld l12 4 = some (.inl (sgM v 24)) := ml12 4 _ hl1 rfl
        refine ex_go (S := (3, l12, [], t0, n, 0)) rfl (fun _ => rfl) rfl ?_
        have hq : fd1 len (sgM v 24) = len := fd1_n (by first | decide | omega)
        show en_ex _ _ _ _ _ (fun o => ∃ r, o = .inl r ∧ ∃ t', r = (none, t', n, 0) ∧ ai_HG ah_G t' ∧ ai_hv t' 383 2 = some (.inl (fdv_16 v (fd1 len (sgM v 24)))) ∧ (∀ c i, ¬ ((c = 383 ∧ i = 2) ∨ c = 384) → ai_hv t' c i = ai_hv tb c i))
        rw [hq]
        exact fzM_16 _ _ t0 (by first | decide | omega) g0 k0 (fun c i h => e0 c i h) l12_0 l12_1 hl12
      · refine gx_2f (c := .gt) rfl (by first | decide | omega) (by first | decide | omega) hc11 rfl ?_
        refine gx_ld (i := 0) (d := 2) (v := gx_r 383) rfl (fun _ => rfl) l1_0 rfl rfl ?_
        refine gx_get rfl g0 rfl k0 rfl ?_
        refine ex_go (S := (45, l1, [.inl 1000, .inl len], t0, n, 0)) rfl (fun _ => rfl) rfl ?_
        by_cases hc13 : 1000 ≤ len
        · refine gx_2t (c := .ge) rfl (by first | decide | omega) (by first | decide | omega) hc13 rfl ?_
          refine gx_incC (i := 3) (a := 24) (b := 16) rfl (fun _ => rfl) l1_3 rfl rfl (fun l14 hl14 ml14 => ?_)
          have l14_0 : en_ld l14 0 = some (gx_r 383) := ml14 0 _ l1_0 rfl
          have l14_1 : en_ld l14 1 = some (.inr (.inl v)) := ml14 1 _ l1_1 rfl
          have l14_4 : en_ld l14 4 = some (.inl (sgM v 24)) := ml14 4 _ hl1 rfl
          refine ex_go (S := (3, l14, [], t0, n, 0)) rfl (fun _ => rfl) rfl ?_
          have hq : fd1 len (sgM v 24) = len := fd1_n (by first | decide | omega)
          show en_ex _ _ _ _ _ (fun o => ∃ r, o = .inl r ∧ ∃ t', r = (none, t', n, 0) ∧ ai_HG ah_G t' ∧ ai_hv t' 383 2 = some (.inl (fdv_16 v (fd1 len (sgM v 24)))) ∧ (∀ c i, ¬ ((c = 383 ∧ i = 2) ∨ c = 384) → ai_hv t' c i = ai_hv tb c i))
          rw [hq]
          exact fzM_16 _ _ t0 (by first | decide | omega) g0 k0 (fun c i h => e0 c i h) l14_0 l14_1 hl14
        · refine gx_2f (c := .ge) rfl (by first | decide | omega) (by first | decide | omega) hc13 rfl ?_
          refine gx_ld (i := 0) (d := 2) (v := gx_r 383) rfl (fun _ => rfl) l1_0 rfl rfl ?_
          refine gx_ref (c := 384) rfl g0 rfl rfl rfl rfl ?_
          refine gx_ld (i := 0) (d := 2) (v := gx_r 383) rfl (fun _ => rfl) l1_0 rfl rfl ?_
          refine gx_get rfl g0 rfl k0 rfl ?_
          refine gx_ld (i := 4) (d := 0) (v := .inl (sgM v 24)) rfl (fun _ => rfl) hl1 rfl rfl ?_
          refine gx_ap rfl (fun _ => rfl) g0 rfl rfl rfl (show len < 1000 from by omega) (gx_run1 (show len < 1000 from by omega)) (ai_in_h (by first | decide | omega) (by first | decide | omega) (by first | decide | omega)) rfl (fun t115 g115 k115 e115 => ?_)
          have k16 : ai_hv t115 383 2 = some (.inl len) := (e115 383 2 (by first | decide | omega)).trans k0
          refine gx_ld (i := 0) (d := 2) (v := gx_r 383) rfl (fun _ => rfl) l1_0 rfl rfl ?_
          refine ex_go (S := (61, l1, [gx_r 383, gx_r 383], t115, n, 0)) rfl (fun _ => rfl) rfl ?_
          refine gx_get rfl g115 rfl k16 rfl ?_
          refine ex_go (S := (65, l1, [.inl 1, .inl len, gx_r 383], t115, n, 0)) rfl (fun _ => rfl) rfl ?_
          refine ex_iadd rfl (by first | decide | omega) rfl ?_
          refine gx_put rfl g115 rfl rfl (ai_in_h (by first | decide | omega) (by first | decide | omega) (by first | decide | omega)) rfl (fun t117 g117 k117 e117 => ?_)
          refine gx_incC (i := 3) (a := 24) (b := 16) rfl (fun _ => rfl) l1_3 rfl rfl (fun l18 hl18 ml18 => ?_)
          have l18_0 : en_ld l18 0 = some (gx_r 383) := ml18 0 _ l1_0 rfl
          have l18_1 : en_ld l18 1 = some (.inr (.inl v)) := ml18 1 _ l1_1 rfl
          have l18_4 : en_ld l18 4 = some (.inl (sgM v 24)) := ml18 4 _ hl1 rfl
          refine ex_go (S := (3, l18, [], t117, n, 0)) rfl (fun _ => rfl) rfl ?_
          have hq : fd1 len (sgM v 24) = len + 1 := fd1_y (by first | decide | omega) (by first | decide | omega)
          show en_ex _ _ _ _ _ (fun o => ∃ r, o = .inl r ∧ ∃ t', r = (none, t', n, 0) ∧ ai_HG ah_G t' ∧ ai_hv t' 383 2 = some (.inl (fdv_16 v (fd1 len (sgM v 24)))) ∧ (∀ c i, ¬ ((c = 383 ∧ i = 2) ∨ c = 384) → ai_hv t' c i = ai_hv tb c i))
          rw [hq]
          exact fzM_16 _ _ t117 (by first | decide | omega) g117 k117 (fun c i h => (e117 c i (by first | decide | omega)).trans ((e115 c i (by first | decide | omega)).trans (e0 c i h))) l18_0 l18_1 hl18
theorem fzM_32 {fn : en_F} {n v : Nat} {tb : en_H} (len : Nat) (cl : en_L) (t0 : en_H) (hl : len ≤ 1000) (g0 : ai_HG ah_G t0) (k0 : ai_hv t0 383 2 = some (.inl len)) (e0 : (∀ c i, ¬ ((c = 383 ∧ i = 2) ∨ c = 384) → ai_hv t0 c i = ai_hv tb c i)) (h0 : en_ld cl 0 = some (gx_r 383)) (h1 : en_ld cl 1 = some (.inr (.inl v))) (h3 : en_ld cl 3 = some (.inl 32)) : en_ex none fn (en_code 91) (fun _ => false) (3, cl, [], t0, n, 0) (fun o => ∃ r, o = .inl r ∧ ∃ t', r = (none, t', n, 0) ∧ ai_HG ah_G t' ∧ ai_hv t' 383 2 = some (.inl (fdv_32 v len)) ∧ (∀ c i, ¬ ((c = 383 ∧ i = 2) ∨ c = 384) → ai_hv t' c i = ai_hv tb c i)) := by
  have hg := sgM_le v 32
  refine gx_ld (i := 3) (d := 0) (v := .inl 32) rfl (fun _ => rfl) h3 rfl rfl ?_
  refine ex_go (S := (7, cl, [], t0, n, 0)) rfl (fun _ => rfl) rfl ?_
  refine gx_ld (i := 1) (d := 1) (v := .inr (.inl v)) rfl (fun _ => rfl) h1 rfl rfl ?_
  refine gx_ld (i := 3) (d := 0) (v := .inl 32) rfl (fun _ => rfl) h3 rfl rfl ?_
  refine ex_go (S := (10, cl, [.inr (.inl (en_lshr v 32))], t0, n, 0)) rfl (fun _ => rfl) rfl ?_
  refine ex_go (S := (11, cl, [.inl ((lN (en_lshr v 32)).toInt32.toBitVec.toNat)], t0, n, 0)) rfl (fun _ => rfl) rfl ?_
  refine ex_go (S := (14, cl, [.inl 255, .inl ((lN (en_lshr v 32)).toInt32.toBitVec.toNat)], t0, n, 0)) rfl (fun _ => rfl) rfl ?_
  refine ex_go (S := (15, cl, [.inl ((nI ((lN (en_lshr v 32)).toInt32.toBitVec.toNat) &&& nI 255).toBitVec.toNat)], t0, n, 0)) rfl (fun _ => rfl) rfl ?_
  rw [show (nI ((lN (en_lshr v 32)).toInt32.toBitVec.toNat) &&& nI 255).toBitVec.toNat = sgM v 32 from rfl]
  refine gx_sto (i := 4) (d := 0) rfl (fun _ => rfl) rfl rfl (fun l1 hl1 ml1 => ?_)
  have l1_0 : en_ld l1 0 = some (gx_r 383) := ml1 0 _ h0 rfl
  have l1_1 : en_ld l1 1 = some (.inr (.inl v)) := ml1 1 _ h1 rfl
  have l1_3 : en_ld l1 3 = some (.inl 32) := ml1 3 _ h3 rfl
  refine gx_ld (i := 4) (d := 0) (v := .inl (sgM v 32)) rfl (fun _ => rfl) hl1 rfl rfl ?_
  refine ex_go (S := (21, l1, [.inl 10, .inl (sgM v 32)], t0, n, 0)) rfl (fun _ => rfl) rfl ?_
  by_cases hc2 : sgM v 32 = 10
  · refine gx_2t (c := .eq) rfl (by first | decide | omega) (by first | decide | omega) hc2 rfl ?_
    refine gx_ld (i := 0) (d := 2) (v := gx_r 383) rfl (fun _ => rfl) l1_0 rfl rfl ?_
    refine gx_get rfl g0 rfl k0 rfl ?_
    refine ex_go (S := (45, l1, [.inl 1000, .inl len], t0, n, 0)) rfl (fun _ => rfl) rfl ?_
    by_cases hc3 : 1000 ≤ len
    · refine gx_2t (c := .ge) rfl (by first | decide | omega) (by first | decide | omega) hc3 rfl ?_
      refine gx_incC (i := 3) (a := 32) (b := 24) rfl (fun _ => rfl) l1_3 rfl rfl (fun l4 hl4 ml4 => ?_)
      have l4_0 : en_ld l4 0 = some (gx_r 383) := ml4 0 _ l1_0 rfl
      have l4_1 : en_ld l4 1 = some (.inr (.inl v)) := ml4 1 _ l1_1 rfl
      have l4_4 : en_ld l4 4 = some (.inl (sgM v 32)) := ml4 4 _ hl1 rfl
      refine ex_go (S := (3, l4, [], t0, n, 0)) rfl (fun _ => rfl) rfl ?_
      have hq : fd1 len (sgM v 32) = len := fd1_n (by first | decide | omega)
      show en_ex _ _ _ _ _ (fun o => ∃ r, o = .inl r ∧ ∃ t', r = (none, t', n, 0) ∧ ai_HG ah_G t' ∧ ai_hv t' 383 2 = some (.inl (fdv_24 v (fd1 len (sgM v 32)))) ∧ (∀ c i, ¬ ((c = 383 ∧ i = 2) ∨ c = 384) → ai_hv t' c i = ai_hv tb c i))
      rw [hq]
      exact fzM_24 _ _ t0 (by first | decide | omega) g0 k0 (fun c i h => e0 c i h) l4_0 l4_1 hl4
    · refine gx_2f (c := .ge) rfl (by first | decide | omega) (by first | decide | omega) hc3 rfl ?_
      refine gx_ld (i := 0) (d := 2) (v := gx_r 383) rfl (fun _ => rfl) l1_0 rfl rfl ?_
      refine gx_ref (c := 384) rfl g0 rfl rfl rfl rfl ?_
      refine gx_ld (i := 0) (d := 2) (v := gx_r 383) rfl (fun _ => rfl) l1_0 rfl rfl ?_
      refine gx_get rfl g0 rfl k0 rfl ?_
      refine gx_ld (i := 4) (d := 0) (v := .inl (sgM v 32)) rfl (fun _ => rfl) hl1 rfl rfl ?_
      refine gx_ap rfl (fun _ => rfl) g0 rfl rfl rfl (show len < 1000 from by omega) (gx_run1 (show len < 1000 from by omega)) (ai_in_h (by first | decide | omega) (by first | decide | omega) (by first | decide | omega)) rfl (fun t105 g105 k105 e105 => ?_)
      have k6 : ai_hv t105 383 2 = some (.inl len) := (e105 383 2 (by first | decide | omega)).trans k0
      refine gx_ld (i := 0) (d := 2) (v := gx_r 383) rfl (fun _ => rfl) l1_0 rfl rfl ?_
      refine ex_go (S := (61, l1, [gx_r 383, gx_r 383], t105, n, 0)) rfl (fun _ => rfl) rfl ?_
      refine gx_get rfl g105 rfl k6 rfl ?_
      refine ex_go (S := (65, l1, [.inl 1, .inl len, gx_r 383], t105, n, 0)) rfl (fun _ => rfl) rfl ?_
      refine ex_iadd rfl (by first | decide | omega) rfl ?_
      refine gx_put rfl g105 rfl rfl (ai_in_h (by first | decide | omega) (by first | decide | omega) (by first | decide | omega)) rfl (fun t107 g107 k107 e107 => ?_)
      refine gx_incC (i := 3) (a := 32) (b := 24) rfl (fun _ => rfl) l1_3 rfl rfl (fun l8 hl8 ml8 => ?_)
      have l8_0 : en_ld l8 0 = some (gx_r 383) := ml8 0 _ l1_0 rfl
      have l8_1 : en_ld l8 1 = some (.inr (.inl v)) := ml8 1 _ l1_1 rfl
      have l8_4 : en_ld l8 4 = some (.inl (sgM v 32)) := ml8 4 _ hl1 rfl
      refine ex_go (S := (3, l8, [], t107, n, 0)) rfl (fun _ => rfl) rfl ?_
      have hq : fd1 len (sgM v 32) = len + 1 := fd1_y (by first | decide | omega) (by first | decide | omega)
      show en_ex _ _ _ _ _ (fun o => ∃ r, o = .inl r ∧ ∃ t', r = (none, t', n, 0) ∧ ai_HG ah_G t' ∧ ai_hv t' 383 2 = some (.inl (fdv_24 v (fd1 len (sgM v 32)))) ∧ (∀ c i, ¬ ((c = 383 ∧ i = 2) ∨ c = 384) → ai_hv t' c i = ai_hv tb c i))
      rw [hq]
      exact fzM_24 _ _ t107 (by first | decide | omega) g107 k107 (fun c i h => (e107 c i (by first | decide | omega)).trans ((e105 c i (by first | decide | omega)).trans (e0 c i h))) l8_0 l8_1 hl8
  · refine gx_2f (c := .eq) rfl (by first | decide | omega) (by first | decide | omega) hc2 rfl ?_
    refine gx_ld (i := 4) (d := 0) (v := .inl (sgM v 32)) rfl (fun _ => rfl) hl1 rfl rfl ?_
    refine ex_go (S := (28, l1, [.inl 32, .inl (sgM v 32)], t0, n, 0)) rfl (fun _ => rfl) rfl ?_
    by_cases hc9 : sgM v 32 < 32
    · refine gx_2t (c := .lt) rfl (by first | decide | omega) (by first | decide | omega) hc9 rfl ?_
      refine gx_incC (i := 3) (a := 32) (b := 24) rfl (fun _ => rfl) l1_3 rfl rfl (fun l10 hl10 ml10 => ?_)
      have l10_0 : en_ld l10 0 = some (gx_r 383) := ml10 0 _ l1_0 rfl
      have l10_1 : en_ld l10 1 = some (.inr (.inl v)) := ml10 1 _ l1_1 rfl
      have l10_4 : en_ld l10 4 = some (.inl (sgM v 32)) := ml10 4 _ hl1 rfl
      refine ex_go (S := (3, l10, [], t0, n, 0)) rfl (fun _ => rfl) rfl ?_
      have hq : fd1 len (sgM v 32) = len := fd1_n (by first | decide | omega)
      show en_ex _ _ _ _ _ (fun o => ∃ r, o = .inl r ∧ ∃ t', r = (none, t', n, 0) ∧ ai_HG ah_G t' ∧ ai_hv t' 383 2 = some (.inl (fdv_24 v (fd1 len (sgM v 32)))) ∧ (∀ c i, ¬ ((c = 383 ∧ i = 2) ∨ c = 384) → ai_hv t' c i = ai_hv tb c i))
      rw [hq]
      exact fzM_24 _ _ t0 (by first | decide | omega) g0 k0 (fun c i h => e0 c i h) l10_0 l10_1 hl10
    · refine gx_2f (c := .lt) rfl (by first | decide | omega) (by first | decide | omega) hc9 rfl ?_
      refine gx_ld (i := 4) (d := 0) (v := .inl (sgM v 32)) rfl (fun _ => rfl) hl1 rfl rfl ?_
      refine ex_go (S := (35, l1, [.inl 126, .inl (sgM v 32)], t0, n, 0)) rfl (fun _ => rfl) rfl ?_
      by_cases hc11 : 126 < sgM v 32
      · refine gx_2t (c := .gt) rfl (by first | decide | omega) (by first | decide | omega) hc11 rfl ?_
        refine gx_incC (i := 3) (a := 32) (b := 24) rfl (fun _ => rfl) l1_3 rfl rfl (fun l12 hl12 ml12 => ?_)
        have l12_0 : en_ld l12 0 = some (gx_r 383) := ml12 0 _ l1_0 rfl
        have l12_1 : en_ld l12 1 = some (.inr (.inl v)) := ml12 1 _ l1_1 rfl
        have l12_4 : en_ld l12 4 = some (.inl (sgM v 32)) := ml12 4 _ hl1 rfl
        refine ex_go (S := (3, l12, [], t0, n, 0)) rfl (fun _ => rfl) rfl ?_
        have hq : fd1 len (sgM v 32) = len := fd1_n (by first | decide | omega)
        show en_ex _ _ _ _ _ (fun o => ∃ r, o = .inl r ∧ ∃ t', r = (none, t', n, 0) ∧ ai_HG ah_G t' ∧ ai_hv t' 383 2 = some (.inl (fdv_24 v (fd1 len (sgM v 32)))) ∧ (∀ c i, ¬ ((c = 383 ∧ i = 2) ∨ c = 384) → ai_hv t' c i = ai_hv tb c i))
        rw [hq]
        exact fzM_24 _ _ t0 (by first | decide | omega) g0 k0 (fun c i h => e0 c i h) l12_0 l12_1 hl12
      · refine gx_2f (c := .gt) rfl (by first | decide | omega) (by first | decide | omega) hc11 rfl ?_
        refine gx_ld (i := 0) (d := 2) (v := gx_r 383) rfl (fun _ => rfl) l1_0 rfl rfl ?_
        refine gx_get rfl g0 rfl k0 rfl ?_
        refine ex_go (S := (45, l1, [.inl 1000, .inl len], t0, n, 0)) rfl (fun _ => rfl) rfl ?_
        by_cases hc13 : 1000 ≤ len
        · refine gx_2t (c := .ge) rfl (by first | decide | omega) (by first | decide | omega) hc13 rfl ?_
          refine gx_incC (i := 3) (a := 32) (b := 24) rfl (fun _ => rfl) l1_3 rfl rfl (fun l14 hl14 ml14 => ?_)
          have l14_0 : en_ld l14 0 = some (gx_r 383) := ml14 0 _ l1_0 rfl
          have l14_1 : en_ld l14 1 = some (.inr (.inl v)) := ml14 1 _ l1_1 rfl
          have l14_4 : en_ld l14 4 = some (.inl (sgM v 32)) := ml14 4 _ hl1 rfl
          refine ex_go (S := (3, l14, [], t0, n, 0)) rfl (fun _ => rfl) rfl ?_
          have hq : fd1 len (sgM v 32) = len := fd1_n (by first | decide | omega)
          show en_ex _ _ _ _ _ (fun o => ∃ r, o = .inl r ∧ ∃ t', r = (none, t', n, 0) ∧ ai_HG ah_G t' ∧ ai_hv t' 383 2 = some (.inl (fdv_24 v (fd1 len (sgM v 32)))) ∧ (∀ c i, ¬ ((c = 383 ∧ i = 2) ∨ c = 384) → ai_hv t' c i = ai_hv tb c i))
          rw [hq]
          exact fzM_24 _ _ t0 (by first | decide | omega) g0 k0 (fun c i h => e0 c i h) l14_0 l14_1 hl14
        · refine gx_2f (c := .ge) rfl (by first | decide | omega) (by first | decide | omega) hc13 rfl ?_
          refine gx_ld (i := 0) (d := 2) (v := gx_r 383) rfl (fun _ => rfl) l1_0 rfl rfl ?_
          refine gx_ref (c := 384) rfl g0 rfl rfl rfl rfl ?_
          refine gx_ld (i := 0) (d := 2) (v := gx_r 383) rfl (fun _ => rfl) l1_0 rfl rfl ?_
          refine gx_get rfl g0 rfl k0 rfl ?_
          refine gx_ld (i := 4) (d := 0) (v := .inl (sgM v 32)) rfl (fun _ => rfl) hl1 rfl rfl ?_
          refine gx_ap rfl (fun _ => rfl) g0 rfl rfl rfl (show len < 1000 from by omega) (gx_run1 (show len < 1000 from by omega)) (ai_in_h (by first | decide | omega) (by first | decide | omega) (by first | decide | omega)) rfl (fun t115 g115 k115 e115 => ?_)
          have k16 : ai_hv t115 383 2 = some (.inl len) := (e115 383 2 (by first | decide | omega)).trans k0
          refine gx_ld (i := 0) (d := 2) (v := gx_r 383) rfl (fun _ => rfl) l1_0 rfl rfl ?_
          refine ex_go (S := (61, l1, [gx_r 383, gx_r 383], t115, n, 0)) rfl (fun _ => rfl) rfl ?_
          refine gx_get rfl g115 rfl k16 rfl ?_
          refine ex_go (S := (65, l1, [.inl 1, .inl len, gx_r 383], t115, n, 0)) rfl (fun _ => rfl) rfl ?_
          refine ex_iadd rfl (by first | decide | omega) rfl ?_
          refine gx_put rfl g115 rfl rfl (ai_in_h (by first | decide | omega) (by first | decide | omega) (by first | decide | omega)) rfl (fun t117 g117 k117 e117 => ?_)
          refine gx_incC (i := 3) (a := 32) (b := 24) rfl (fun _ => rfl) l1_3 rfl rfl (fun l18 hl18 ml18 => ?_)
          have l18_0 : en_ld l18 0 = some (gx_r 383) := ml18 0 _ l1_0 rfl
          have l18_1 : en_ld l18 1 = some (.inr (.inl v)) := ml18 1 _ l1_1 rfl
          have l18_4 : en_ld l18 4 = some (.inl (sgM v 32)) := ml18 4 _ hl1 rfl
          refine ex_go (S := (3, l18, [], t117, n, 0)) rfl (fun _ => rfl) rfl ?_
          have hq : fd1 len (sgM v 32) = len + 1 := fd1_y (by first | decide | omega) (by first | decide | omega)
          show en_ex _ _ _ _ _ (fun o => ∃ r, o = .inl r ∧ ∃ t', r = (none, t', n, 0) ∧ ai_HG ah_G t' ∧ ai_hv t' 383 2 = some (.inl (fdv_24 v (fd1 len (sgM v 32)))) ∧ (∀ c i, ¬ ((c = 383 ∧ i = 2) ∨ c = 384) → ai_hv t' c i = ai_hv tb c i))
          rw [hq]
          exact fzM_24 _ _ t117 (by first | decide | omega) g117 k117 (fun c i h => (e117 c i (by first | decide | omega)).trans ((e115 c i (by first | decide | omega)).trans (e0 c i h))) l18_0 l18_1 hl18
theorem fzM_40 {fn : en_F} {n v : Nat} {tb : en_H} (len : Nat) (cl : en_L) (t0 : en_H) (hl : len ≤ 1000) (g0 : ai_HG ah_G t0) (k0 : ai_hv t0 383 2 = some (.inl len)) (e0 : (∀ c i, ¬ ((c = 383 ∧ i = 2) ∨ c = 384) → ai_hv t0 c i = ai_hv tb c i)) (h0 : en_ld cl 0 = some (gx_r 383)) (h1 : en_ld cl 1 = some (.inr (.inl v))) (h3 : en_ld cl 3 = some (.inl 40)) : en_ex none fn (en_code 91) (fun _ => false) (3, cl, [], t0, n, 0) (fun o => ∃ r, o = .inl r ∧ ∃ t', r = (none, t', n, 0) ∧ ai_HG ah_G t' ∧ ai_hv t' 383 2 = some (.inl (fdv_40 v len)) ∧ (∀ c i, ¬ ((c = 383 ∧ i = 2) ∨ c = 384) → ai_hv t' c i = ai_hv tb c i)) := by
  have hg := sgM_le v 40
  refine gx_ld (i := 3) (d := 0) (v := .inl 40) rfl (fun _ => rfl) h3 rfl rfl ?_
  refine ex_go (S := (7, cl, [], t0, n, 0)) rfl (fun _ => rfl) rfl ?_
  refine gx_ld (i := 1) (d := 1) (v := .inr (.inl v)) rfl (fun _ => rfl) h1 rfl rfl ?_
  refine gx_ld (i := 3) (d := 0) (v := .inl 40) rfl (fun _ => rfl) h3 rfl rfl ?_
  refine ex_go (S := (10, cl, [.inr (.inl (en_lshr v 40))], t0, n, 0)) rfl (fun _ => rfl) rfl ?_
  refine ex_go (S := (11, cl, [.inl ((lN (en_lshr v 40)).toInt32.toBitVec.toNat)], t0, n, 0)) rfl (fun _ => rfl) rfl ?_
  refine ex_go (S := (14, cl, [.inl 255, .inl ((lN (en_lshr v 40)).toInt32.toBitVec.toNat)], t0, n, 0)) rfl (fun _ => rfl) rfl ?_
  refine ex_go (S := (15, cl, [.inl ((nI ((lN (en_lshr v 40)).toInt32.toBitVec.toNat) &&& nI 255).toBitVec.toNat)], t0, n, 0)) rfl (fun _ => rfl) rfl ?_
  rw [show (nI ((lN (en_lshr v 40)).toInt32.toBitVec.toNat) &&& nI 255).toBitVec.toNat = sgM v 40 from rfl]
  refine gx_sto (i := 4) (d := 0) rfl (fun _ => rfl) rfl rfl (fun l1 hl1 ml1 => ?_)
  have l1_0 : en_ld l1 0 = some (gx_r 383) := ml1 0 _ h0 rfl
  have l1_1 : en_ld l1 1 = some (.inr (.inl v)) := ml1 1 _ h1 rfl
  have l1_3 : en_ld l1 3 = some (.inl 40) := ml1 3 _ h3 rfl
  refine gx_ld (i := 4) (d := 0) (v := .inl (sgM v 40)) rfl (fun _ => rfl) hl1 rfl rfl ?_
  refine ex_go (S := (21, l1, [.inl 10, .inl (sgM v 40)], t0, n, 0)) rfl (fun _ => rfl) rfl ?_
  by_cases hc2 : sgM v 40 = 10
  · refine gx_2t (c := .eq) rfl (by first | decide | omega) (by first | decide | omega) hc2 rfl ?_
    refine gx_ld (i := 0) (d := 2) (v := gx_r 383) rfl (fun _ => rfl) l1_0 rfl rfl ?_
    refine gx_get rfl g0 rfl k0 rfl ?_
    refine ex_go (S := (45, l1, [.inl 1000, .inl len], t0, n, 0)) rfl (fun _ => rfl) rfl ?_
    by_cases hc3 : 1000 ≤ len
    · refine gx_2t (c := .ge) rfl (by first | decide | omega) (by first | decide | omega) hc3 rfl ?_
      refine gx_incC (i := 3) (a := 40) (b := 32) rfl (fun _ => rfl) l1_3 rfl rfl (fun l4 hl4 ml4 => ?_)
      have l4_0 : en_ld l4 0 = some (gx_r 383) := ml4 0 _ l1_0 rfl
      have l4_1 : en_ld l4 1 = some (.inr (.inl v)) := ml4 1 _ l1_1 rfl
      have l4_4 : en_ld l4 4 = some (.inl (sgM v 40)) := ml4 4 _ hl1 rfl
      refine ex_go (S := (3, l4, [], t0, n, 0)) rfl (fun _ => rfl) rfl ?_
      have hq : fd1 len (sgM v 40) = len := fd1_n (by first | decide | omega)
      show en_ex _ _ _ _ _ (fun o => ∃ r, o = .inl r ∧ ∃ t', r = (none, t', n, 0) ∧ ai_HG ah_G t' ∧ ai_hv t' 383 2 = some (.inl (fdv_32 v (fd1 len (sgM v 40)))) ∧ (∀ c i, ¬ ((c = 383 ∧ i = 2) ∨ c = 384) → ai_hv t' c i = ai_hv tb c i))
      rw [hq]
      exact fzM_32 _ _ t0 (by first | decide | omega) g0 k0 (fun c i h => e0 c i h) l4_0 l4_1 hl4
    · refine gx_2f (c := .ge) rfl (by first | decide | omega) (by first | decide | omega) hc3 rfl ?_
      refine gx_ld (i := 0) (d := 2) (v := gx_r 383) rfl (fun _ => rfl) l1_0 rfl rfl ?_
      refine gx_ref (c := 384) rfl g0 rfl rfl rfl rfl ?_
      refine gx_ld (i := 0) (d := 2) (v := gx_r 383) rfl (fun _ => rfl) l1_0 rfl rfl ?_
      refine gx_get rfl g0 rfl k0 rfl ?_
      refine gx_ld (i := 4) (d := 0) (v := .inl (sgM v 40)) rfl (fun _ => rfl) hl1 rfl rfl ?_
      refine gx_ap rfl (fun _ => rfl) g0 rfl rfl rfl (show len < 1000 from by omega) (gx_run1 (show len < 1000 from by omega)) (ai_in_h (by first | decide | omega) (by first | decide | omega) (by first | decide | omega)) rfl (fun t105 g105 k105 e105 => ?_)
      have k6 : ai_hv t105 383 2 = some (.inl len) := (e105 383 2 (by first | decide | omega)).trans k0
      refine gx_ld (i := 0) (d := 2) (v := gx_r 383) rfl (fun _ => rfl) l1_0 rfl rfl ?_
      refine ex_go (S := (61, l1, [gx_r 383, gx_r 383], t105, n, 0)) rfl (fun _ => rfl) rfl ?_
      refine gx_get rfl g105 rfl k6 rfl ?_
      refine ex_go (S := (65, l1, [.inl 1, .inl len, gx_r 383], t105, n, 0)) rfl (fun _ => rfl) rfl ?_
      refine ex_iadd rfl (by first | decide | omega) rfl ?_
      refine gx_put rfl g105 rfl rfl (ai_in_h (by first | decide | omega) (by first | decide | omega) (by first | decide | omega)) rfl (fun t107 g107 k107 e107 => ?_)
      refine gx_incC (i := 3) (a := 40) (b := 32) rfl (fun _ => rfl) l1_3 rfl rfl (fun l8 hl8 ml8 => ?_)
      have l8_0 : en_ld l8 0 = some (gx_r 383) := ml8 0 _ l1_0 rfl
      have l8_1 : en_ld l8 1 = some (.inr (.inl v)) := ml8 1 _ l1_1 rfl
      have l8_4 : en_ld l8 4 = some (.inl (sgM v 40)) := ml8 4 _ hl1 rfl
      refine ex_go (S := (3, l8, [], t107, n, 0)) rfl (fun _ => rfl) rfl ?_
      have hq : fd1 len (sgM v 40) = len + 1 := fd1_y (by first | decide | omega) (by first | decide | omega)
      show en_ex _ _ _ _ _ (fun o => ∃ r, o = .inl r ∧ ∃ t', r = (none, t', n, 0) ∧ ai_HG ah_G t' ∧ ai_hv t' 383 2 = some (.inl (fdv_32 v (fd1 len (sgM v 40)))) ∧ (∀ c i, ¬ ((c = 383 ∧ i = 2) ∨ c = 384) → ai_hv t' c i = ai_hv tb c i))
      rw [hq]
      exact fzM_32 _ _ t107 (by first | decide | omega) g107 k107 (fun c i h => (e107 c i (by first | decide | omega)).trans ((e105 c i (by first | decide | omega)).trans (e0 c i h))) l8_0 l8_1 hl8
  · refine gx_2f (c := .eq) rfl (by first | decide | omega) (by first | decide | omega) hc2 rfl ?_
    refine gx_ld (i := 4) (d := 0) (v := .inl (sgM v 40)) rfl (fun _ => rfl) hl1 rfl rfl ?_
    refine ex_go (S := (28, l1, [.inl 32, .inl (sgM v 40)], t0, n, 0)) rfl (fun _ => rfl) rfl ?_
    by_cases hc9 : sgM v 40 < 32
    · refine gx_2t (c := .lt) rfl (by first | decide | omega) (by first | decide | omega) hc9 rfl ?_
      refine gx_incC (i := 3) (a := 40) (b := 32) rfl (fun _ => rfl) l1_3 rfl rfl (fun l10 hl10 ml10 => ?_)
      have l10_0 : en_ld l10 0 = some (gx_r 383) := ml10 0 _ l1_0 rfl
      have l10_1 : en_ld l10 1 = some (.inr (.inl v)) := ml10 1 _ l1_1 rfl
      have l10_4 : en_ld l10 4 = some (.inl (sgM v 40)) := ml10 4 _ hl1 rfl
      refine ex_go (S := (3, l10, [], t0, n, 0)) rfl (fun _ => rfl) rfl ?_
      have hq : fd1 len (sgM v 40) = len := fd1_n (by first | decide | omega)
      show en_ex _ _ _ _ _ (fun o => ∃ r, o = .inl r ∧ ∃ t', r = (none, t', n, 0) ∧ ai_HG ah_G t' ∧ ai_hv t' 383 2 = some (.inl (fdv_32 v (fd1 len (sgM v 40)))) ∧ (∀ c i, ¬ ((c = 383 ∧ i = 2) ∨ c = 384) → ai_hv t' c i = ai_hv tb c i))
      rw [hq]
      exact fzM_32 _ _ t0 (by first | decide | omega) g0 k0 (fun c i h => e0 c i h) l10_0 l10_1 hl10
    · refine gx_2f (c := .lt) rfl (by first | decide | omega) (by first | decide | omega) hc9 rfl ?_
      refine gx_ld (i := 4) (d := 0) (v := .inl (sgM v 40)) rfl (fun _ => rfl) hl1 rfl rfl ?_
      refine ex_go (S := (35, l1, [.inl 126, .inl (sgM v 40)], t0, n, 0)) rfl (fun _ => rfl) rfl ?_
      by_cases hc11 : 126 < sgM v 40
      · refine gx_2t (c := .gt) rfl (by first | decide | omega) (by first | decide | omega) hc11 rfl ?_
        refine gx_incC (i := 3) (a := 40) (b := 32) rfl (fun _ => rfl) l1_3 rfl rfl (fun l12 hl12 ml12 => ?_)
        have l12_0 : en_ld l12 0 = some (gx_r 383) := ml12 0 _ l1_0 rfl
        have l12_1 : en_ld l12 1 = some (.inr (.inl v)) := ml12 1 _ l1_1 rfl
        have l12_4 : en_ld l12 4 = some (.inl (sgM v 40)) := ml12 4 _ hl1 rfl
        refine ex_go (S := (3, l12, [], t0, n, 0)) rfl (fun _ => rfl) rfl ?_
        have hq : fd1 len (sgM v 40) = len := fd1_n (by first | decide | omega)
        show en_ex _ _ _ _ _ (fun o => ∃ r, o = .inl r ∧ ∃ t', r = (none, t', n, 0) ∧ ai_HG ah_G t' ∧ ai_hv t' 383 2 = some (.inl (fdv_32 v (fd1 len (sgM v 40)))) ∧ (∀ c i, ¬ ((c = 383 ∧ i = 2) ∨ c = 384) → ai_hv t' c i = ai_hv tb c i))
        rw [hq]
        exact fzM_32 _ _ t0 (by first | decide | omega) g0 k0 (fun c i h => e0 c i h) l12_0 l12_1 hl12
      · refine gx_2f (c := .gt) rfl (by first | decide | omega) (by first | decide | omega) hc11 rfl ?_
        refine gx_ld (i := 0) (d := 2) (v := gx_r 383) rfl (fun _ => rfl) l1_0 rfl rfl ?_
        refine gx_get rfl g0 rfl k0 rfl ?_
        refine ex_go (S := (45, l1, [.inl 1000, .inl len], t0, n, 0)) rfl (fun _ => rfl) rfl ?_
        by_cases hc13 : 1000 ≤ len
        · refine gx_2t (c := .ge) rfl (by first | decide | omega) (by first | decide | omega) hc13 rfl ?_
          refine gx_incC (i := 3) (a := 40) (b := 32) rfl (fun _ => rfl) l1_3 rfl rfl (fun l14 hl14 ml14 => ?_)
          have l14_0 : en_ld l14 0 = some (gx_r 383) := ml14 0 _ l1_0 rfl
          have l14_1 : en_ld l14 1 = some (.inr (.inl v)) := ml14 1 _ l1_1 rfl
          have l14_4 : en_ld l14 4 = some (.inl (sgM v 40)) := ml14 4 _ hl1 rfl
          refine ex_go (S := (3, l14, [], t0, n, 0)) rfl (fun _ => rfl) rfl ?_
          have hq : fd1 len (sgM v 40) = len := fd1_n (by first | decide | omega)
          show en_ex _ _ _ _ _ (fun o => ∃ r, o = .inl r ∧ ∃ t', r = (none, t', n, 0) ∧ ai_HG ah_G t' ∧ ai_hv t' 383 2 = some (.inl (fdv_32 v (fd1 len (sgM v 40)))) ∧ (∀ c i, ¬ ((c = 383 ∧ i = 2) ∨ c = 384) → ai_hv t' c i = ai_hv tb c i))
          rw [hq]
          exact fzM_32 _ _ t0 (by first | decide | omega) g0 k0 (fun c i h => e0 c i h) l14_0 l14_1 hl14
        · refine gx_2f (c := .ge) rfl (by first | decide | omega) (by first | decide | omega) hc13 rfl ?_
          refine gx_ld (i := 0) (d := 2) (v := gx_r 383) rfl (fun _ => rfl) l1_0 rfl rfl ?_
          refine gx_ref (c := 384) rfl g0 rfl rfl rfl rfl ?_
          refine gx_ld (i := 0) (d := 2) (v := gx_r 383) rfl (fun _ => rfl) l1_0 rfl rfl ?_
          refine gx_get rfl g0 rfl k0 rfl ?_
          refine gx_ld (i := 4) (d := 0) (v := .inl (sgM v 40)) rfl (fun _ => rfl) hl1 rfl rfl ?_
          refine gx_ap rfl (fun _ => rfl) g0 rfl rfl rfl (show len < 1000 from by omega) (gx_run1 (show len < 1000 from by omega)) (ai_in_h (by first | decide | omega) (by first | decide | omega) (by first | decide | omega)) rfl (fun t115 g115 k115 e115 => ?_)
          have k16 : ai_hv t115 383 2 = some (.inl len) := (e115 383 2 (by first | decide | omega)).trans k0
          refine gx_ld (i := 0) (d := 2) (v := gx_r 383) rfl (fun _ => rfl) l1_0 rfl rfl ?_
          refine ex_go (S := (61, l1, [gx_r 383, gx_r 383], t115, n, 0)) rfl (fun _ => rfl) rfl ?_
          refine gx_get rfl g115 rfl k16 rfl ?_
          refine ex_go (S := (65, l1, [.inl 1, .inl len, gx_r 383], t115, n, 0)) rfl (fun _ => rfl) rfl ?_
          refine ex_iadd rfl (by first | decide | omega) rfl ?_
          refine gx_put rfl g115 rfl rfl (ai_in_h (by first | decide | omega) (by first | decide | omega) (by first | decide | omega)) rfl (fun t117 g117 k117 e117 => ?_)
          refine gx_incC (i := 3) (a := 40) (b := 32) rfl (fun _ => rfl) l1_3 rfl rfl (fun l18 hl18 ml18 => ?_)
          have l18_0 : en_ld l18 0 = some (gx_r 383) := ml18 0 _ l1_0 rfl
          have l18_1 : en_ld l18 1 = some (.inr (.inl v)) := ml18 1 _ l1_1 rfl
          have l18_4 : en_ld l18 4 = some (.inl (sgM v 40)) := ml18 4 _ hl1 rfl
          refine ex_go (S := (3, l18, [], t117, n, 0)) rfl (fun _ => rfl) rfl ?_
          have hq : fd1 len (sgM v 40) = len + 1 := fd1_y (by first | decide | omega) (by first | decide | omega)
          show en_ex _ _ _ _ _ (fun o => ∃ r, o = .inl r ∧ ∃ t', r = (none, t', n, 0) ∧ ai_HG ah_G t' ∧ ai_hv t' 383 2 = some (.inl (fdv_32 v (fd1 len (sgM v 40)))) ∧ (∀ c i, ¬ ((c = 383 ∧ i = 2) ∨ c = 384) → ai_hv t' c i = ai_hv tb c i))
          rw [hq]
          exact fzM_32 _ _ t117 (by first | decide | omega) g117 k117 (fun c i h => (e117 c i (by first | decide | omega)).trans ((e115 c i (by first | decide | omega)).trans (e0 c i h))) l18_0 l18_1 hl18
theorem fzM_48 {fn : en_F} {n v : Nat} {tb : en_H} (len : Nat) (cl : en_L) (t0 : en_H) (hl : len ≤ 1000) (g0 : ai_HG ah_G t0) (k0 : ai_hv t0 383 2 = some (.inl len)) (e0 : (∀ c i, ¬ ((c = 383 ∧ i = 2) ∨ c = 384) → ai_hv t0 c i = ai_hv tb c i)) (h0 : en_ld cl 0 = some (gx_r 383)) (h1 : en_ld cl 1 = some (.inr (.inl v))) (h3 : en_ld cl 3 = some (.inl 48)) : en_ex none fn (en_code 91) (fun _ => false) (3, cl, [], t0, n, 0) (fun o => ∃ r, o = .inl r ∧ ∃ t', r = (none, t', n, 0) ∧ ai_HG ah_G t' ∧ ai_hv t' 383 2 = some (.inl (fdv_48 v len)) ∧ (∀ c i, ¬ ((c = 383 ∧ i = 2) ∨ c = 384) → ai_hv t' c i = ai_hv tb c i)) := by
  have hg := sgM_le v 48
  refine gx_ld (i := 3) (d := 0) (v := .inl 48) rfl (fun _ => rfl) h3 rfl rfl ?_
  refine ex_go (S := (7, cl, [], t0, n, 0)) rfl (fun _ => rfl) rfl ?_
  refine gx_ld (i := 1) (d := 1) (v := .inr (.inl v)) rfl (fun _ => rfl) h1 rfl rfl ?_
  refine gx_ld (i := 3) (d := 0) (v := .inl 48) rfl (fun _ => rfl) h3 rfl rfl ?_
  refine ex_go (S := (10, cl, [.inr (.inl (en_lshr v 48))], t0, n, 0)) rfl (fun _ => rfl) rfl ?_
  refine ex_go (S := (11, cl, [.inl ((lN (en_lshr v 48)).toInt32.toBitVec.toNat)], t0, n, 0)) rfl (fun _ => rfl) rfl ?_
  refine ex_go (S := (14, cl, [.inl 255, .inl ((lN (en_lshr v 48)).toInt32.toBitVec.toNat)], t0, n, 0)) rfl (fun _ => rfl) rfl ?_
  refine ex_go (S := (15, cl, [.inl ((nI ((lN (en_lshr v 48)).toInt32.toBitVec.toNat) &&& nI 255).toBitVec.toNat)], t0, n, 0)) rfl (fun _ => rfl) rfl ?_
  rw [show (nI ((lN (en_lshr v 48)).toInt32.toBitVec.toNat) &&& nI 255).toBitVec.toNat = sgM v 48 from rfl]
  refine gx_sto (i := 4) (d := 0) rfl (fun _ => rfl) rfl rfl (fun l1 hl1 ml1 => ?_)
  have l1_0 : en_ld l1 0 = some (gx_r 383) := ml1 0 _ h0 rfl
  have l1_1 : en_ld l1 1 = some (.inr (.inl v)) := ml1 1 _ h1 rfl
  have l1_3 : en_ld l1 3 = some (.inl 48) := ml1 3 _ h3 rfl
  refine gx_ld (i := 4) (d := 0) (v := .inl (sgM v 48)) rfl (fun _ => rfl) hl1 rfl rfl ?_
  refine ex_go (S := (21, l1, [.inl 10, .inl (sgM v 48)], t0, n, 0)) rfl (fun _ => rfl) rfl ?_
  by_cases hc2 : sgM v 48 = 10
  · refine gx_2t (c := .eq) rfl (by first | decide | omega) (by first | decide | omega) hc2 rfl ?_
    refine gx_ld (i := 0) (d := 2) (v := gx_r 383) rfl (fun _ => rfl) l1_0 rfl rfl ?_
    refine gx_get rfl g0 rfl k0 rfl ?_
    refine ex_go (S := (45, l1, [.inl 1000, .inl len], t0, n, 0)) rfl (fun _ => rfl) rfl ?_
    by_cases hc3 : 1000 ≤ len
    · refine gx_2t (c := .ge) rfl (by first | decide | omega) (by first | decide | omega) hc3 rfl ?_
      refine gx_incC (i := 3) (a := 48) (b := 40) rfl (fun _ => rfl) l1_3 rfl rfl (fun l4 hl4 ml4 => ?_)
      have l4_0 : en_ld l4 0 = some (gx_r 383) := ml4 0 _ l1_0 rfl
      have l4_1 : en_ld l4 1 = some (.inr (.inl v)) := ml4 1 _ l1_1 rfl
      have l4_4 : en_ld l4 4 = some (.inl (sgM v 48)) := ml4 4 _ hl1 rfl
      refine ex_go (S := (3, l4, [], t0, n, 0)) rfl (fun _ => rfl) rfl ?_
      have hq : fd1 len (sgM v 48) = len := fd1_n (by first | decide | omega)
      show en_ex _ _ _ _ _ (fun o => ∃ r, o = .inl r ∧ ∃ t', r = (none, t', n, 0) ∧ ai_HG ah_G t' ∧ ai_hv t' 383 2 = some (.inl (fdv_40 v (fd1 len (sgM v 48)))) ∧ (∀ c i, ¬ ((c = 383 ∧ i = 2) ∨ c = 384) → ai_hv t' c i = ai_hv tb c i))
      rw [hq]
      exact fzM_40 _ _ t0 (by first | decide | omega) g0 k0 (fun c i h => e0 c i h) l4_0 l4_1 hl4
    · refine gx_2f (c := .ge) rfl (by first | decide | omega) (by first | decide | omega) hc3 rfl ?_
      refine gx_ld (i := 0) (d := 2) (v := gx_r 383) rfl (fun _ => rfl) l1_0 rfl rfl ?_
      refine gx_ref (c := 384) rfl g0 rfl rfl rfl rfl ?_
      refine gx_ld (i := 0) (d := 2) (v := gx_r 383) rfl (fun _ => rfl) l1_0 rfl rfl ?_
      refine gx_get rfl g0 rfl k0 rfl ?_
      refine gx_ld (i := 4) (d := 0) (v := .inl (sgM v 48)) rfl (fun _ => rfl) hl1 rfl rfl ?_
      refine gx_ap rfl (fun _ => rfl) g0 rfl rfl rfl (show len < 1000 from by omega) (gx_run1 (show len < 1000 from by omega)) (ai_in_h (by first | decide | omega) (by first | decide | omega) (by first | decide | omega)) rfl (fun t105 g105 k105 e105 => ?_)
      have k6 : ai_hv t105 383 2 = some (.inl len) := (e105 383 2 (by first | decide | omega)).trans k0
      refine gx_ld (i := 0) (d := 2) (v := gx_r 383) rfl (fun _ => rfl) l1_0 rfl rfl ?_
      refine ex_go (S := (61, l1, [gx_r 383, gx_r 383], t105, n, 0)) rfl (fun _ => rfl) rfl ?_
      refine gx_get rfl g105 rfl k6 rfl ?_
      refine ex_go (S := (65, l1, [.inl 1, .inl len, gx_r 383], t105, n, 0)) rfl (fun _ => rfl) rfl ?_
      refine ex_iadd rfl (by first | decide | omega) rfl ?_
      refine gx_put rfl g105 rfl rfl (ai_in_h (by first | decide | omega) (by first | decide | omega) (by first | decide | omega)) rfl (fun t107 g107 k107 e107 => ?_)
      refine gx_incC (i := 3) (a := 48) (b := 40) rfl (fun _ => rfl) l1_3 rfl rfl (fun l8 hl8 ml8 => ?_)
      have l8_0 : en_ld l8 0 = some (gx_r 383) := ml8 0 _ l1_0 rfl
      have l8_1 : en_ld l8 1 = some (.inr (.inl v)) := ml8 1 _ l1_1 rfl
      have l8_4 : en_ld l8 4 = some (.inl (sgM v 48)) := ml8 4 _ hl1 rfl
      refine ex_go (S := (3, l8, [], t107, n, 0)) rfl (fun _ => rfl) rfl ?_
      have hq : fd1 len (sgM v 48) = len + 1 := fd1_y (by first | decide | omega) (by first | decide | omega)
      show en_ex _ _ _ _ _ (fun o => ∃ r, o = .inl r ∧ ∃ t', r = (none, t', n, 0) ∧ ai_HG ah_G t' ∧ ai_hv t' 383 2 = some (.inl (fdv_40 v (fd1 len (sgM v 48)))) ∧ (∀ c i, ¬ ((c = 383 ∧ i = 2) ∨ c = 384) → ai_hv t' c i = ai_hv tb c i))
      rw [hq]
      exact fzM_40 _ _ t107 (by first | decide | omega) g107 k107 (fun c i h => (e107 c i (by first | decide | omega)).trans ((e105 c i (by first | decide | omega)).trans (e0 c i h))) l8_0 l8_1 hl8
  · refine gx_2f (c := .eq) rfl (by first | decide | omega) (by first | decide | omega) hc2 rfl ?_
    refine gx_ld (i := 4) (d := 0) (v := .inl (sgM v 48)) rfl (fun _ => rfl) hl1 rfl rfl ?_
    refine ex_go (S := (28, l1, [.inl 32, .inl (sgM v 48)], t0, n, 0)) rfl (fun _ => rfl) rfl ?_
    by_cases hc9 : sgM v 48 < 32
    · refine gx_2t (c := .lt) rfl (by first | decide | omega) (by first | decide | omega) hc9 rfl ?_
      refine gx_incC (i := 3) (a := 48) (b := 40) rfl (fun _ => rfl) l1_3 rfl rfl (fun l10 hl10 ml10 => ?_)
      have l10_0 : en_ld l10 0 = some (gx_r 383) := ml10 0 _ l1_0 rfl
      have l10_1 : en_ld l10 1 = some (.inr (.inl v)) := ml10 1 _ l1_1 rfl
      have l10_4 : en_ld l10 4 = some (.inl (sgM v 48)) := ml10 4 _ hl1 rfl
      refine ex_go (S := (3, l10, [], t0, n, 0)) rfl (fun _ => rfl) rfl ?_
      have hq : fd1 len (sgM v 48) = len := fd1_n (by first | decide | omega)
      show en_ex _ _ _ _ _ (fun o => ∃ r, o = .inl r ∧ ∃ t', r = (none, t', n, 0) ∧ ai_HG ah_G t' ∧ ai_hv t' 383 2 = some (.inl (fdv_40 v (fd1 len (sgM v 48)))) ∧ (∀ c i, ¬ ((c = 383 ∧ i = 2) ∨ c = 384) → ai_hv t' c i = ai_hv tb c i))
      rw [hq]
      exact fzM_40 _ _ t0 (by first | decide | omega) g0 k0 (fun c i h => e0 c i h) l10_0 l10_1 hl10
    · refine gx_2f (c := .lt) rfl (by first | decide | omega) (by first | decide | omega) hc9 rfl ?_
      refine gx_ld (i := 4) (d := 0) (v := .inl (sgM v 48)) rfl (fun _ => rfl) hl1 rfl rfl ?_
      refine ex_go (S := (35, l1, [.inl 126, .inl (sgM v 48)], t0, n, 0)) rfl (fun _ => rfl) rfl ?_
      by_cases hc11 : 126 < sgM v 48
      · refine gx_2t (c := .gt) rfl (by first | decide | omega) (by first | decide | omega) hc11 rfl ?_
        refine gx_incC (i := 3) (a := 48) (b := 40) rfl (fun _ => rfl) l1_3 rfl rfl (fun l12 hl12 ml12 => ?_)
        have l12_0 : en_ld l12 0 = some (gx_r 383) := ml12 0 _ l1_0 rfl
        have l12_1 : en_ld l12 1 = some (.inr (.inl v)) := ml12 1 _ l1_1 rfl
        have l12_4 : en_ld l12 4 = some (.inl (sgM v 48)) := ml12 4 _ hl1 rfl
        refine ex_go (S := (3, l12, [], t0, n, 0)) rfl (fun _ => rfl) rfl ?_
        have hq : fd1 len (sgM v 48) = len := fd1_n (by first | decide | omega)
        show en_ex _ _ _ _ _ (fun o => ∃ r, o = .inl r ∧ ∃ t', r = (none, t', n, 0) ∧ ai_HG ah_G t' ∧ ai_hv t' 383 2 = some (.inl (fdv_40 v (fd1 len (sgM v 48)))) ∧ (∀ c i, ¬ ((c = 383 ∧ i = 2) ∨ c = 384) → ai_hv t' c i = ai_hv tb c i))
        rw [hq]
        exact fzM_40 _ _ t0 (by first | decide | omega) g0 k0 (fun c i h => e0 c i h) l12_0 l12_1 hl12
      · refine gx_2f (c := .gt) rfl (by first | decide | omega) (by first | decide | omega) hc11 rfl ?_
        refine gx_ld (i := 0) (d := 2) (v := gx_r 383) rfl (fun _ => rfl) l1_0 rfl rfl ?_
        refine gx_get rfl g0 rfl k0 rfl ?_
        refine ex_go (S := (45, l1, [.inl 1000, .inl len], t0, n, 0)) rfl (fun _ => rfl) rfl ?_
        by_cases hc13 : 1000 ≤ len
        · refine gx_2t (c := .ge) rfl (by first | decide | omega) (by first | decide | omega) hc13 rfl ?_
          refine gx_incC (i := 3) (a := 48) (b := 40) rfl (fun _ => rfl) l1_3 rfl rfl (fun l14 hl14 ml14 => ?_)
          have l14_0 : en_ld l14 0 = some (gx_r 383) := ml14 0 _ l1_0 rfl
          have l14_1 : en_ld l14 1 = some (.inr (.inl v)) := ml14 1 _ l1_1 rfl
          have l14_4 : en_ld l14 4 = some (.inl (sgM v 48)) := ml14 4 _ hl1 rfl
          refine ex_go (S := (3, l14, [], t0, n, 0)) rfl (fun _ => rfl) rfl ?_
          have hq : fd1 len (sgM v 48) = len := fd1_n (by first | decide | omega)
          show en_ex _ _ _ _ _ (fun o => ∃ r, o = .inl r ∧ ∃ t', r = (none, t', n, 0) ∧ ai_HG ah_G t' ∧ ai_hv t' 383 2 = some (.inl (fdv_40 v (fd1 len (sgM v 48)))) ∧ (∀ c i, ¬ ((c = 383 ∧ i = 2) ∨ c = 384) → ai_hv t' c i = ai_hv tb c i))
          rw [hq]
          exact fzM_40 _ _ t0 (by first | decide | omega) g0 k0 (fun c i h => e0 c i h) l14_0 l14_1 hl14
        · refine gx_2f (c := .ge) rfl (by first | decide | omega) (by first | decide | omega) hc13 rfl ?_
          refine gx_ld (i := 0) (d := 2) (v := gx_r 383) rfl (fun _ => rfl) l1_0 rfl rfl ?_
          refine gx_ref (c := 384) rfl g0 rfl rfl rfl rfl ?_
          refine gx_ld (i := 0) (d := 2) (v := gx_r 383) rfl (fun _ => rfl) l1_0 rfl rfl ?_
          refine gx_get rfl g0 rfl k0 rfl ?_
          refine gx_ld (i := 4) (d := 0) (v := .inl (sgM v 48)) rfl (fun _ => rfl) hl1 rfl rfl ?_
          refine gx_ap rfl (fun _ => rfl) g0 rfl rfl rfl (show len < 1000 from by omega) (gx_run1 (show len < 1000 from by omega)) (ai_in_h (by first | decide | omega) (by first | decide | omega) (by first | decide | omega)) rfl (fun t115 g115 k115 e115 => ?_)
          have k16 : ai_hv t115 383 2 = some (.inl len) := (e115 383 2 (by first | decide | omega)).trans k0
          refine gx_ld (i := 0) (d := 2) (v := gx_r 383) rfl (fun _ => rfl) l1_0 rfl rfl ?_
          refine ex_go (S := (61, l1, [gx_r 383, gx_r 383], t115, n, 0)) rfl (fun _ => rfl) rfl ?_
          refine gx_get rfl g115 rfl k16 rfl ?_
          refine ex_go (S := (65, l1, [.inl 1, .inl len, gx_r 383], t115, n, 0)) rfl (fun _ => rfl) rfl ?_
          refine ex_iadd rfl (by first | decide | omega) rfl ?_
          refine gx_put rfl g115 rfl rfl (ai_in_h (by first | decide | omega) (by first | decide | omega) (by first | decide | omega)) rfl (fun t117 g117 k117 e117 => ?_)
          refine gx_incC (i := 3) (a := 48) (b := 40) rfl (fun _ => rfl) l1_3 rfl rfl (fun l18 hl18 ml18 => ?_)
          have l18_0 : en_ld l18 0 = some (gx_r 383) := ml18 0 _ l1_0 rfl
          have l18_1 : en_ld l18 1 = some (.inr (.inl v)) := ml18 1 _ l1_1 rfl
          have l18_4 : en_ld l18 4 = some (.inl (sgM v 48)) := ml18 4 _ hl1 rfl
          refine ex_go (S := (3, l18, [], t117, n, 0)) rfl (fun _ => rfl) rfl ?_
          have hq : fd1 len (sgM v 48) = len + 1 := fd1_y (by first | decide | omega) (by first | decide | omega)
          show en_ex _ _ _ _ _ (fun o => ∃ r, o = .inl r ∧ ∃ t', r = (none, t', n, 0) ∧ ai_HG ah_G t' ∧ ai_hv t' 383 2 = some (.inl (fdv_40 v (fd1 len (sgM v 48)))) ∧ (∀ c i, ¬ ((c = 383 ∧ i = 2) ∨ c = 384) → ai_hv t' c i = ai_hv tb c i))
          rw [hq]
          exact fzM_40 _ _ t117 (by first | decide | omega) g117 k117 (fun c i h => (e117 c i (by first | decide | omega)).trans ((e115 c i (by first | decide | omega)).trans (e0 c i h))) l18_0 l18_1 hl18
theorem fzM_56 {fn : en_F} {n v : Nat} {tb : en_H} (len : Nat) (cl : en_L) (t0 : en_H) (hl : len ≤ 1000) (g0 : ai_HG ah_G t0) (k0 : ai_hv t0 383 2 = some (.inl len)) (e0 : (∀ c i, ¬ ((c = 383 ∧ i = 2) ∨ c = 384) → ai_hv t0 c i = ai_hv tb c i)) (h0 : en_ld cl 0 = some (gx_r 383)) (h1 : en_ld cl 1 = some (.inr (.inl v))) (h3 : en_ld cl 3 = some (.inl 56)) : en_ex none fn (en_code 91) (fun _ => false) (3, cl, [], t0, n, 0) (fun o => ∃ r, o = .inl r ∧ ∃ t', r = (none, t', n, 0) ∧ ai_HG ah_G t' ∧ ai_hv t' 383 2 = some (.inl (fdv_56 v len)) ∧ (∀ c i, ¬ ((c = 383 ∧ i = 2) ∨ c = 384) → ai_hv t' c i = ai_hv tb c i)) := by
  have hg := sgM_le v 56
  refine gx_ld (i := 3) (d := 0) (v := .inl 56) rfl (fun _ => rfl) h3 rfl rfl ?_
  refine ex_go (S := (7, cl, [], t0, n, 0)) rfl (fun _ => rfl) rfl ?_
  refine gx_ld (i := 1) (d := 1) (v := .inr (.inl v)) rfl (fun _ => rfl) h1 rfl rfl ?_
  refine gx_ld (i := 3) (d := 0) (v := .inl 56) rfl (fun _ => rfl) h3 rfl rfl ?_
  refine ex_go (S := (10, cl, [.inr (.inl (en_lshr v 56))], t0, n, 0)) rfl (fun _ => rfl) rfl ?_
  refine ex_go (S := (11, cl, [.inl ((lN (en_lshr v 56)).toInt32.toBitVec.toNat)], t0, n, 0)) rfl (fun _ => rfl) rfl ?_
  refine ex_go (S := (14, cl, [.inl 255, .inl ((lN (en_lshr v 56)).toInt32.toBitVec.toNat)], t0, n, 0)) rfl (fun _ => rfl) rfl ?_
  refine ex_go (S := (15, cl, [.inl ((nI ((lN (en_lshr v 56)).toInt32.toBitVec.toNat) &&& nI 255).toBitVec.toNat)], t0, n, 0)) rfl (fun _ => rfl) rfl ?_
  rw [show (nI ((lN (en_lshr v 56)).toInt32.toBitVec.toNat) &&& nI 255).toBitVec.toNat = sgM v 56 from rfl]
  refine gx_sto (i := 4) (d := 0) rfl (fun _ => rfl) rfl rfl (fun l1 hl1 ml1 => ?_)
  have l1_0 : en_ld l1 0 = some (gx_r 383) := ml1 0 _ h0 rfl
  have l1_1 : en_ld l1 1 = some (.inr (.inl v)) := ml1 1 _ h1 rfl
  have l1_3 : en_ld l1 3 = some (.inl 56) := ml1 3 _ h3 rfl
  refine gx_ld (i := 4) (d := 0) (v := .inl (sgM v 56)) rfl (fun _ => rfl) hl1 rfl rfl ?_
  refine ex_go (S := (21, l1, [.inl 10, .inl (sgM v 56)], t0, n, 0)) rfl (fun _ => rfl) rfl ?_
  by_cases hc2 : sgM v 56 = 10
  · refine gx_2t (c := .eq) rfl (by first | decide | omega) (by first | decide | omega) hc2 rfl ?_
    refine gx_ld (i := 0) (d := 2) (v := gx_r 383) rfl (fun _ => rfl) l1_0 rfl rfl ?_
    refine gx_get rfl g0 rfl k0 rfl ?_
    refine ex_go (S := (45, l1, [.inl 1000, .inl len], t0, n, 0)) rfl (fun _ => rfl) rfl ?_
    by_cases hc3 : 1000 ≤ len
    · refine gx_2t (c := .ge) rfl (by first | decide | omega) (by first | decide | omega) hc3 rfl ?_
      refine gx_incC (i := 3) (a := 56) (b := 48) rfl (fun _ => rfl) l1_3 rfl rfl (fun l4 hl4 ml4 => ?_)
      have l4_0 : en_ld l4 0 = some (gx_r 383) := ml4 0 _ l1_0 rfl
      have l4_1 : en_ld l4 1 = some (.inr (.inl v)) := ml4 1 _ l1_1 rfl
      have l4_4 : en_ld l4 4 = some (.inl (sgM v 56)) := ml4 4 _ hl1 rfl
      refine ex_go (S := (3, l4, [], t0, n, 0)) rfl (fun _ => rfl) rfl ?_
      have hq : fd1 len (sgM v 56) = len := fd1_n (by first | decide | omega)
      show en_ex _ _ _ _ _ (fun o => ∃ r, o = .inl r ∧ ∃ t', r = (none, t', n, 0) ∧ ai_HG ah_G t' ∧ ai_hv t' 383 2 = some (.inl (fdv_48 v (fd1 len (sgM v 56)))) ∧ (∀ c i, ¬ ((c = 383 ∧ i = 2) ∨ c = 384) → ai_hv t' c i = ai_hv tb c i))
      rw [hq]
      exact fzM_48 _ _ t0 (by first | decide | omega) g0 k0 (fun c i h => e0 c i h) l4_0 l4_1 hl4
    · refine gx_2f (c := .ge) rfl (by first | decide | omega) (by first | decide | omega) hc3 rfl ?_
      refine gx_ld (i := 0) (d := 2) (v := gx_r 383) rfl (fun _ => rfl) l1_0 rfl rfl ?_
      refine gx_ref (c := 384) rfl g0 rfl rfl rfl rfl ?_
      refine gx_ld (i := 0) (d := 2) (v := gx_r 383) rfl (fun _ => rfl) l1_0 rfl rfl ?_
      refine gx_get rfl g0 rfl k0 rfl ?_
      refine gx_ld (i := 4) (d := 0) (v := .inl (sgM v 56)) rfl (fun _ => rfl) hl1 rfl rfl ?_
      refine gx_ap rfl (fun _ => rfl) g0 rfl rfl rfl (show len < 1000 from by omega) (gx_run1 (show len < 1000 from by omega)) (ai_in_h (by first | decide | omega) (by first | decide | omega) (by first | decide | omega)) rfl (fun t105 g105 k105 e105 => ?_)
      have k6 : ai_hv t105 383 2 = some (.inl len) := (e105 383 2 (by first | decide | omega)).trans k0
      refine gx_ld (i := 0) (d := 2) (v := gx_r 383) rfl (fun _ => rfl) l1_0 rfl rfl ?_
      refine ex_go (S := (61, l1, [gx_r 383, gx_r 383], t105, n, 0)) rfl (fun _ => rfl) rfl ?_
      refine gx_get rfl g105 rfl k6 rfl ?_
      refine ex_go (S := (65, l1, [.inl 1, .inl len, gx_r 383], t105, n, 0)) rfl (fun _ => rfl) rfl ?_
      refine ex_iadd rfl (by first | decide | omega) rfl ?_
      refine gx_put rfl g105 rfl rfl (ai_in_h (by first | decide | omega) (by first | decide | omega) (by first | decide | omega)) rfl (fun t107 g107 k107 e107 => ?_)
      refine gx_incC (i := 3) (a := 56) (b := 48) rfl (fun _ => rfl) l1_3 rfl rfl (fun l8 hl8 ml8 => ?_)
      have l8_0 : en_ld l8 0 = some (gx_r 383) := ml8 0 _ l1_0 rfl
      have l8_1 : en_ld l8 1 = some (.inr (.inl v)) := ml8 1 _ l1_1 rfl
      have l8_4 : en_ld l8 4 = some (.inl (sgM v 56)) := ml8 4 _ hl1 rfl
      refine ex_go (S := (3, l8, [], t107, n, 0)) rfl (fun _ => rfl) rfl ?_
      have hq : fd1 len (sgM v 56) = len + 1 := fd1_y (by first | decide | omega) (by first | decide | omega)
      show en_ex _ _ _ _ _ (fun o => ∃ r, o = .inl r ∧ ∃ t', r = (none, t', n, 0) ∧ ai_HG ah_G t' ∧ ai_hv t' 383 2 = some (.inl (fdv_48 v (fd1 len (sgM v 56)))) ∧ (∀ c i, ¬ ((c = 383 ∧ i = 2) ∨ c = 384) → ai_hv t' c i = ai_hv tb c i))
      rw [hq]
      exact fzM_48 _ _ t107 (by first | decide | omega) g107 k107 (fun c i h => (e107 c i (by first | decide | omega)).trans ((e105 c i (by first | decide | omega)).trans (e0 c i h))) l8_0 l8_1 hl8
  · refine gx_2f (c := .eq) rfl (by first | decide | omega) (by first | decide | omega) hc2 rfl ?_
    refine gx_ld (i := 4) (d := 0) (v := .inl (sgM v 56)) rfl (fun _ => rfl) hl1 rfl rfl ?_
    refine ex_go (S := (28, l1, [.inl 32, .inl (sgM v 56)], t0, n, 0)) rfl (fun _ => rfl) rfl ?_
    by_cases hc9 : sgM v 56 < 32
    · refine gx_2t (c := .lt) rfl (by first | decide | omega) (by first | decide | omega) hc9 rfl ?_
      refine gx_incC (i := 3) (a := 56) (b := 48) rfl (fun _ => rfl) l1_3 rfl rfl (fun l10 hl10 ml10 => ?_)
      have l10_0 : en_ld l10 0 = some (gx_r 383) := ml10 0 _ l1_0 rfl
      have l10_1 : en_ld l10 1 = some (.inr (.inl v)) := ml10 1 _ l1_1 rfl
      have l10_4 : en_ld l10 4 = some (.inl (sgM v 56)) := ml10 4 _ hl1 rfl
      refine ex_go (S := (3, l10, [], t0, n, 0)) rfl (fun _ => rfl) rfl ?_
      have hq : fd1 len (sgM v 56) = len := fd1_n (by first | decide | omega)
      show en_ex _ _ _ _ _ (fun o => ∃ r, o = .inl r ∧ ∃ t', r = (none, t', n, 0) ∧ ai_HG ah_G t' ∧ ai_hv t' 383 2 = some (.inl (fdv_48 v (fd1 len (sgM v 56)))) ∧ (∀ c i, ¬ ((c = 383 ∧ i = 2) ∨ c = 384) → ai_hv t' c i = ai_hv tb c i))
      rw [hq]
      exact fzM_48 _ _ t0 (by first | decide | omega) g0 k0 (fun c i h => e0 c i h) l10_0 l10_1 hl10
    · refine gx_2f (c := .lt) rfl (by first | decide | omega) (by first | decide | omega) hc9 rfl ?_
      refine gx_ld (i := 4) (d := 0) (v := .inl (sgM v 56)) rfl (fun _ => rfl) hl1 rfl rfl ?_
      refine ex_go (S := (35, l1, [.inl 126, .inl (sgM v 56)], t0, n, 0)) rfl (fun _ => rfl) rfl ?_
      by_cases hc11 : 126 < sgM v 56
      · refine gx_2t (c := .gt) rfl (by first | decide | omega) (by first | decide | omega) hc11 rfl ?_
        refine gx_incC (i := 3) (a := 56) (b := 48) rfl (fun _ => rfl) l1_3 rfl rfl (fun l12 hl12 ml12 => ?_)
        have l12_0 : en_ld l12 0 = some (gx_r 383) := ml12 0 _ l1_0 rfl
        have l12_1 : en_ld l12 1 = some (.inr (.inl v)) := ml12 1 _ l1_1 rfl
        have l12_4 : en_ld l12 4 = some (.inl (sgM v 56)) := ml12 4 _ hl1 rfl
        refine ex_go (S := (3, l12, [], t0, n, 0)) rfl (fun _ => rfl) rfl ?_
        have hq : fd1 len (sgM v 56) = len := fd1_n (by first | decide | omega)
        show en_ex _ _ _ _ _ (fun o => ∃ r, o = .inl r ∧ ∃ t', r = (none, t', n, 0) ∧ ai_HG ah_G t' ∧ ai_hv t' 383 2 = some (.inl (fdv_48 v (fd1 len (sgM v 56)))) ∧ (∀ c i, ¬ ((c = 383 ∧ i = 2) ∨ c = 384) → ai_hv t' c i = ai_hv tb c i))
        rw [hq]
        exact fzM_48 _ _ t0 (by first | decide | omega) g0 k0 (fun c i h => e0 c i h) l12_0 l12_1 hl12
      · refine gx_2f (c := .gt) rfl (by first | decide | omega) (by first | decide | omega) hc11 rfl ?_
        refine gx_ld (i := 0) (d := 2) (v := gx_r 383) rfl (fun _ => rfl) l1_0 rfl rfl ?_
        refine gx_get rfl g0 rfl k0 rfl ?_
        refine ex_go (S := (45, l1, [.inl 1000, .inl len], t0, n, 0)) rfl (fun _ => rfl) rfl ?_
        by_cases hc13 : 1000 ≤ len
        · refine gx_2t (c := .ge) rfl (by first | decide | omega) (by first | decide | omega) hc13 rfl ?_
          refine gx_incC (i := 3) (a := 56) (b := 48) rfl (fun _ => rfl) l1_3 rfl rfl (fun l14 hl14 ml14 => ?_)
          have l14_0 : en_ld l14 0 = some (gx_r 383) := ml14 0 _ l1_0 rfl
          have l14_1 : en_ld l14 1 = some (.inr (.inl v)) := ml14 1 _ l1_1 rfl
          have l14_4 : en_ld l14 4 = some (.inl (sgM v 56)) := ml14 4 _ hl1 rfl
          refine ex_go (S := (3, l14, [], t0, n, 0)) rfl (fun _ => rfl) rfl ?_
          have hq : fd1 len (sgM v 56) = len := fd1_n (by first | decide | omega)
          show en_ex _ _ _ _ _ (fun o => ∃ r, o = .inl r ∧ ∃ t', r = (none, t', n, 0) ∧ ai_HG ah_G t' ∧ ai_hv t' 383 2 = some (.inl (fdv_48 v (fd1 len (sgM v 56)))) ∧ (∀ c i, ¬ ((c = 383 ∧ i = 2) ∨ c = 384) → ai_hv t' c i = ai_hv tb c i))
          rw [hq]
          exact fzM_48 _ _ t0 (by first | decide | omega) g0 k0 (fun c i h => e0 c i h) l14_0 l14_1 hl14
        · refine gx_2f (c := .ge) rfl (by first | decide | omega) (by first | decide | omega) hc13 rfl ?_
          refine gx_ld (i := 0) (d := 2) (v := gx_r 383) rfl (fun _ => rfl) l1_0 rfl rfl ?_
          refine gx_ref (c := 384) rfl g0 rfl rfl rfl rfl ?_
          refine gx_ld (i := 0) (d := 2) (v := gx_r 383) rfl (fun _ => rfl) l1_0 rfl rfl ?_
          refine gx_get rfl g0 rfl k0 rfl ?_
          refine gx_ld (i := 4) (d := 0) (v := .inl (sgM v 56)) rfl (fun _ => rfl) hl1 rfl rfl ?_
          refine gx_ap rfl (fun _ => rfl) g0 rfl rfl rfl (show len < 1000 from by omega) (gx_run1 (show len < 1000 from by omega)) (ai_in_h (by first | decide | omega) (by first | decide | omega) (by first | decide | omega)) rfl (fun t115 g115 k115 e115 => ?_)
          have k16 : ai_hv t115 383 2 = some (.inl len) := (e115 383 2 (by first | decide | omega)).trans k0
          refine gx_ld (i := 0) (d := 2) (v := gx_r 383) rfl (fun _ => rfl) l1_0 rfl rfl ?_
          refine ex_go (S := (61, l1, [gx_r 383, gx_r 383], t115, n, 0)) rfl (fun _ => rfl) rfl ?_
          refine gx_get rfl g115 rfl k16 rfl ?_
          refine ex_go (S := (65, l1, [.inl 1, .inl len, gx_r 383], t115, n, 0)) rfl (fun _ => rfl) rfl ?_
          refine ex_iadd rfl (by first | decide | omega) rfl ?_
          refine gx_put rfl g115 rfl rfl (ai_in_h (by first | decide | omega) (by first | decide | omega) (by first | decide | omega)) rfl (fun t117 g117 k117 e117 => ?_)
          refine gx_incC (i := 3) (a := 56) (b := 48) rfl (fun _ => rfl) l1_3 rfl rfl (fun l18 hl18 ml18 => ?_)
          have l18_0 : en_ld l18 0 = some (gx_r 383) := ml18 0 _ l1_0 rfl
          have l18_1 : en_ld l18 1 = some (.inr (.inl v)) := ml18 1 _ l1_1 rfl
          have l18_4 : en_ld l18 4 = some (.inl (sgM v 56)) := ml18 4 _ hl1 rfl
          refine ex_go (S := (3, l18, [], t117, n, 0)) rfl (fun _ => rfl) rfl ?_
          have hq : fd1 len (sgM v 56) = len + 1 := fd1_y (by first | decide | omega) (by first | decide | omega)
          show en_ex _ _ _ _ _ (fun o => ∃ r, o = .inl r ∧ ∃ t', r = (none, t', n, 0) ∧ ai_HG ah_G t' ∧ ai_hv t' 383 2 = some (.inl (fdv_48 v (fd1 len (sgM v 56)))) ∧ (∀ c i, ¬ ((c = 383 ∧ i = 2) ∨ c = 384) → ai_hv t' c i = ai_hv tb c i))
          rw [hq]
          exact fzM_48 _ _ t117 (by first | decide | omega) g117 k117 (fun c i h => (e117 c i (by first | decide | omega)).trans ((e115 c i (by first | decide | omega)).trans (e0 c i h))) l18_0 l18_1 hl18
theorem pk_lay (d n : Nat) {v len : Nat} {tb : en_H} (g0 : ai_HG ah_G tb) (hl : len ≤ 1000) (k0 : ai_hv tb 383 2 = some (.inl len)) : ∃ r, en_u (d + 1) 91 [gx_r 383, .inr (.inl v)] tb n = some r ∧ ∃ t', r = (none, t', n, 0) ∧ ai_HG ah_G t' ∧ ai_hv t' 383 2 = some (.inl (fdv_56 v len)) ∧ (∀ c i, ¬ ((c = 383 ∧ i = 2) ∨ c = 384) → ai_hv t' c i = ai_hv tb c i) := by
  refine en_u_ex rfl ?_
  show en_ex _ _ _ _ (0, [(0, gx_r 383), (1, .inr (.inl v))], [], tb, n, 0) _
  refine ex_go (S := (2, [(0, gx_r 383), (1, .inr (.inl v))], [.inl 56], tb, n, 0)) rfl (fun _ => rfl) rfl ?_
  refine ex_go (S := (3, [(3, .inl 56), (0, gx_r 383), (1, .inr (.inl v))], [], tb, n, 0)) rfl (fun _ => rfl) rfl ?_
  exact fzM_56 len _ tb hl g0 k0 (fun c i h => rfl) rfl rfl rfl
theorem pk_feedM (d n : Nat) {u v w len : Nat} {t0 : en_H} (g0 : ai_HG ah_G t0) (hl : len ≤ 1000) (k0 : ai_hv t0 383 2 = some (.inl len)) : ∃ r, en_u (d + 2) 31 [gx_r 383, .inr (.inl u), .inr (.inl v), .inr (.inl w)] t0 n = some r ∧ ∃ t', r = (some (.inl (fdv_56 w (fdv_56 v (fdv_56 u len)))), t', n, 0) ∧ ai_HG ah_G t' ∧ ai_hv t' 383 2 = some (.inl (fdv_56 w (fdv_56 v (fdv_56 u len)))) ∧ (∀ c i, ¬ ((c = 383 ∧ (i = 0 ∨ i = 2)) ∨ c = 384) → ai_hv t' c i = ai_hv t0 c i) := by
  have l1 := fdv_le u hl
  have l2 := fdv_le v l1
  have l3 := fdv_le w l2
  refine en_u_ex (d := d + 1) rfl ?_
  show en_ex _ _ _ _ (0, [(0, gx_r 383), (1, .inr (.inl u)), (3, .inr (.inl v)), (5, .inr (.inl w))], [], t0, n, 0) _
  refine ex_go (S := (1, [(0, gx_r 383), (1, .inr (.inl u)), (3, .inr (.inl v)), (5, .inr (.inl w))], [gx_r 383], t0, n, 0)) rfl (fun _ => rfl) rfl ?_
  refine ex_go (S := (2, [(0, gx_r 383), (1, .inr (.inl u)), (3, .inr (.inl v)), (5, .inr (.inl w))], [.inl 0, gx_r 383], t0, n, 0)) rfl (fun _ => rfl) rfl ?_
  refine gx_put rfl g0 rfl rfl (ai_in_h (by first | decide | omega) (by first | decide | omega) (by first | decide | omega)) rfl (fun t101 g101 k101 e101 => ?_)
  have k2 : ai_hv t101 383 2 = some (.inl len) := (e101 383 2 (by first | decide | omega)).trans k0
  refine ex_go (S := (6, [(0, gx_r 383), (1, .inr (.inl u)), (3, .inr (.inl v)), (5, .inr (.inl w))], [gx_r 383], t101, n, 0)) rfl (fun _ => rfl) rfl ?_
  refine ex_go (S := (7, [(0, gx_r 383), (1, .inr (.inl u)), (3, .inr (.inl v)), (5, .inr (.inl w))], [.inr (.inl u), gx_r 383], t101, n, 0)) rfl (fun _ => rfl) rfl ?_
  obtain ⟨_, r103, t103, rfl, g103, k103, e103⟩ := pk_lay d n (v := u) g101 hl k2
  refine gx_callo (a := 383) rfl rfl g101 rfl rfl rfl r103 rfl ?_
  show en_ex _ _ _ _ (10, [(0, gx_r 383), (1, .inr (.inl u)), (3, .inr (.inl v)), (5, .inr (.inl w))], [], t103, n, 0) _
  refine ex_go (S := (11, [(0, gx_r 383), (1, .inr (.inl u)), (3, .inr (.inl v)), (5, .inr (.inl w))], [gx_r 383], t103, n, 0)) rfl (fun _ => rfl) rfl ?_
  refine ex_go (S := (12, [(0, gx_r 383), (1, .inr (.inl u)), (3, .inr (.inl v)), (5, .inr (.inl w))], [.inr (.inl v), gx_r 383], t103, n, 0)) rfl (fun _ => rfl) rfl ?_
  obtain ⟨_, r104, t104, rfl, g104, k104, e104⟩ := pk_lay d n (v := v) g103 l1 k103
  refine gx_callo (a := 383) rfl rfl g103 rfl rfl rfl r104 rfl ?_
  show en_ex _ _ _ _ (15, [(0, gx_r 383), (1, .inr (.inl u)), (3, .inr (.inl v)), (5, .inr (.inl w))], [], t104, n, 0) _
  refine ex_go (S := (16, [(0, gx_r 383), (1, .inr (.inl u)), (3, .inr (.inl v)), (5, .inr (.inl w))], [gx_r 383], t104, n, 0)) rfl (fun _ => rfl) rfl ?_
  refine ex_go (S := (18, [(0, gx_r 383), (1, .inr (.inl u)), (3, .inr (.inl v)), (5, .inr (.inl w))], [.inr (.inl w), gx_r 383], t104, n, 0)) rfl (fun _ => rfl) rfl ?_
  obtain ⟨_, r105, t105, rfl, g105, k105, e105⟩ := pk_lay d n (v := w) g104 l2 k104
  refine gx_callo (a := 383) rfl rfl g104 rfl rfl rfl r105 rfl ?_
  show en_ex _ _ _ _ (21, [(0, gx_r 383), (1, .inr (.inl u)), (3, .inr (.inl v)), (5, .inr (.inl w))], [], t105, n, 0) _
  refine ex_go (S := (22, [(0, gx_r 383), (1, .inr (.inl u)), (3, .inr (.inl v)), (5, .inr (.inl w))], [gx_r 383], t105, n, 0)) rfl (fun _ => rfl) rfl ?_
  refine gx_get rfl g105 rfl k105 rfl ?_
  refine ex_ret (r := (some (.inl (fdv_56 w (fdv_56 v (fdv_56 u len)))), t105, n, 0)) rfl (fun _ => rfl) ?_
  exact ⟨_, rfl, t105, rfl, g105, k105, (fun c i h => (e105 c i (by first | decide | omega)).trans ((e104 c i (by first | decide | omega)).trans ((e103 c i (by first | decide | omega)).trans (e101 c i (by first | decide | omega)))))⟩
end PKE
