section SPZ
variable {oc : Option (List en_V)} {f : en_F} {code : Nat → Option en_I} {stop : Nat → Bool} {P : en_O → Prop}
variable {pc nx' : Nat} {ls : en_L} {st : List en_V} {t : en_H} {n sl : Nat}
theorem i2b_s {a : Nat} (h : a < 128) : ((nI a).toInt8.toInt32).toBitVec.toNat = a := by
  have h1 : (List.range 128).all (fun a => ((nI a).toInt8.toInt32).toBitVec.toNat == a) = true := by decide +kernel
  exact eq_of_beq (List.all_eq_true.mp h1 a (List.mem_range.mpr h))
theorem gx_i2bx {x1 x2 a : Nat} (hc : code pc = some (.i2b, nx', x1, x2)) (ha : a < 128) (hp : stop nx' = false) (h : en_ex oc f code stop (nx', ls, .inl a :: st, t, n, sl) P) : en_ex oc f code stop (pc, ls, .inl a :: st, t, n, sl) P := by
  refine ex_go (S := (nx', ls, .inl ((nI a).toInt8.toInt32).toBitVec.toNat :: st, t, n, sl)) hc (fun k => rfl) hp ?_
  rw [i2b_s ha]; exact h
/-- what lies on a tape, a sign more -/
noncomputable def fS1 (len : Nat) (S : Nat → Nat) (g : Nat) : Nat → Nat := if len < 1000 ∧ (g = 10 ∨ (32 ≤ g ∧ g ≤ 126)) then nx S len g else S
theorem fS1_y {len g : Nat} {S : Nat → Nat} (h1 : len < 1000) (h2 : g = 10 ∨ (32 ≤ g ∧ g ≤ 126)) : fS1 len S g = nx S len g := if_pos ⟨h1, h2⟩
theorem fS1_n {len g : Nat} {S : Nat → Nat} (h : ¬ (len < 1000 ∧ (g = 10 ∨ (32 ≤ g ∧ g ≤ 126)))) : fS1 len S g = S := if_neg h
noncomputable def tp (t : en_H) (c : Nat) (S : Nat → Nat) (len : Nat) : Prop := ∀ i, i < len → ai_hv t c i = some (.inl (S i)) ∧ S i ≤ 126
theorem tp_keep {t t' : en_H} {c len : Nat} {S : Nat → Nat} (h : tp t c S len) (e : ∀ i, ai_hv t' c i = ai_hv t c i) : tp t' c S len := fun i hi => ⟨(e i).trans (h i hi).1, (h i hi).2⟩
theorem tp_up {t t' : en_H} {c len g : Nat} {S : Nat → Nat} (h : tp t c S len) (e : ∀ i, ¬ i = len → ai_hv t' c i = ai_hv t c i) (h1 : ai_hv t' c len = some (.inl g)) (hg : g ≤ 126) : tp t' c (nx S len g) (len + 1) := fun i hi => by
  by_cases c : i = len
  · rw [c, nx_t]; exact ⟨h1, hg⟩
  · rw [nx_f c, e i c]; exact h i (by first | decide | omega)
noncomputable def fSv_0 (v len : Nat) (S : Nat → Nat) : Nat → Nat := fS1 len S (sgM v 0)
noncomputable def fSv_8 (v len : Nat) (S : Nat → Nat) : Nat → Nat := fSv_0 v (fd1 len (sgM v 8)) (fS1 len S (sgM v 8))
noncomputable def fSv_16 (v len : Nat) (S : Nat → Nat) : Nat → Nat := fSv_8 v (fd1 len (sgM v 16)) (fS1 len S (sgM v 16))
noncomputable def fSv_24 (v len : Nat) (S : Nat → Nat) : Nat → Nat := fSv_16 v (fd1 len (sgM v 24)) (fS1 len S (sgM v 24))
noncomputable def fSv_32 (v len : Nat) (S : Nat → Nat) : Nat → Nat := fSv_24 v (fd1 len (sgM v 32)) (fS1 len S (sgM v 32))
noncomputable def fSv_40 (v len : Nat) (S : Nat → Nat) : Nat → Nat := fSv_32 v (fd1 len (sgM v 40)) (fS1 len S (sgM v 40))
noncomputable def fSv_48 (v len : Nat) (S : Nat → Nat) : Nat → Nat := fSv_40 v (fd1 len (sgM v 48)) (fS1 len S (sgM v 48))
noncomputable def fSv_56 (v len : Nat) (S : Nat → Nat) : Nat → Nat := fSv_48 v (fd1 len (sgM v 56)) (fS1 len S (sgM v 56))
theorem fyC_e {fn : en_F} {n v : Nat} {tb : en_H} (len : Nat) (S : Nat → Nat) (cl : en_L) (t0 : en_H) (hl : len ≤ 1000) (g0 : ai_HG ah_G t0) (k0 : ai_hv t0 1 0 = some (.inl len)) (hS : tp t0 2 S len) (e0 : (∀ c i, ¬ ((c = 1 ∧ i = 0) ∨ c = 2) → ai_hv t0 c i = ai_hv tb c i)) (h0 : en_ld cl 0 = some (gx_r 1)) (h1 : en_ld cl 1 = some (.inr (.inl v))) (h3 : en_ld cl 3 = some (.inl 4294967288)) : en_ex none fn (en_code 90) (fun _ => false) (3, cl, [], t0, n, 0) (fun o => ∃ r, o = .inl r ∧ ∃ t', r = (none, t', n, 0) ∧ ai_HG ah_G t' ∧ ai_hv t' 1 0 = some (.inl (len)) ∧ tp t' 2 (S) (len) ∧ (∀ c i, ¬ ((c = 1 ∧ i = 0) ∨ c = 2) → ai_hv t' c i = ai_hv tb c i)) := by
  refine gx_ld (i := 3) (d := 0) (v := .inl 4294967288) rfl (fun _ => rfl) h3 rfl rfl ?_
  refine ex_go (S := (76, cl, [], t0, n, 0)) rfl (fun _ => rfl) rfl ?_
  refine ex_ret (r := (none, t0, n, 0)) rfl (fun _ => rfl) ?_
  exact ⟨_, rfl, t0, rfl, g0, k0, hS, (fun c i h => e0 c i h)⟩
theorem fyC_0 {fn : en_F} {n v : Nat} {tb : en_H} (len : Nat) (S : Nat → Nat) (cl : en_L) (t0 : en_H) (hl : len ≤ 1000) (g0 : ai_HG ah_G t0) (k0 : ai_hv t0 1 0 = some (.inl len)) (hS : tp t0 2 S len) (e0 : (∀ c i, ¬ ((c = 1 ∧ i = 0) ∨ c = 2) → ai_hv t0 c i = ai_hv tb c i)) (h0 : en_ld cl 0 = some (gx_r 1)) (h1 : en_ld cl 1 = some (.inr (.inl v))) (h3 : en_ld cl 3 = some (.inl 0)) : en_ex none fn (en_code 90) (fun _ => false) (3, cl, [], t0, n, 0) (fun o => ∃ r, o = .inl r ∧ ∃ t', r = (none, t', n, 0) ∧ ai_HG ah_G t' ∧ ai_hv t' 1 0 = some (.inl (fdv_0 v len)) ∧ tp t' 2 (fSv_0 v len S) (fdv_0 v len) ∧ (∀ c i, ¬ ((c = 1 ∧ i = 0) ∨ c = 2) → ai_hv t' c i = ai_hv tb c i)) := by
  have hg := sgM_le v 0
  refine gx_ld (i := 3) (d := 0) (v := .inl 0) rfl (fun _ => rfl) h3 rfl rfl ?_
  refine ex_go (S := (7, cl, [], t0, n, 0)) rfl (fun _ => rfl) rfl ?_
  refine gx_ld (i := 1) (d := 1) (v := .inr (.inl v)) rfl (fun _ => rfl) h1 rfl rfl ?_
  refine gx_ld (i := 3) (d := 0) (v := .inl 0) rfl (fun _ => rfl) h3 rfl rfl ?_
  refine ex_go (S := (10, cl, [.inr (.inl (en_lshr v 0))], t0, n, 0)) rfl (fun _ => rfl) rfl ?_
  refine ex_go (S := (13, cl, [.inr (.inl 255), .inr (.inl (en_lshr v 0))], t0, n, 0)) rfl (fun _ => rfl) rfl ?_
  refine ex_go (S := (14, cl, [.inr (.inl (en_land (en_lshr v 0) 255))], t0, n, 0)) rfl (fun _ => rfl) rfl ?_
  refine ex_go (S := (15, cl, [.inl ((lN (en_land (en_lshr v 0) 255)).toInt32.toBitVec.toNat)], t0, n, 0)) rfl (fun _ => rfl) rfl ?_
  rw [show (lN (en_land (en_lshr v 0) 255)).toInt32.toBitVec.toNat = sgM v 0 from sgC_M v 0]
  refine gx_sto (i := 4) (d := 0) rfl (fun _ => rfl) rfl rfl (fun l1 hl1 ml1 => ?_)
  have l1_0 : en_ld l1 0 = some (gx_r 1) := ml1 0 _ h0 rfl
  have l1_1 : en_ld l1 1 = some (.inr (.inl v)) := ml1 1 _ h1 rfl
  have l1_3 : en_ld l1 3 = some (.inl 0) := ml1 3 _ h3 rfl
  refine gx_ld (i := 0) (d := 2) (v := gx_r 1) rfl (fun _ => rfl) l1_0 rfl rfl ?_
  refine gxo_get (a := 1) rfl g0 rfl rfl k0 rfl ?_
  refine ex_go (S := (24, l1, [.inl 1000, .inl len], t0, n, 0)) rfl (fun _ => rfl) rfl ?_
  by_cases hc2 : 1000 ≤ len
  · refine gx_2t (c := .ge) rfl (by first | decide | omega) (by first | decide | omega) hc2 rfl ?_
    refine gx_incC (i := 3) (a := 0) (b := 4294967288) rfl (fun _ => rfl) l1_3 rfl rfl (fun l3 hl3 ml3 => ?_)
    have l3_0 : en_ld l3 0 = some (gx_r 1) := ml3 0 _ l1_0 rfl
    have l3_1 : en_ld l3 1 = some (.inr (.inl v)) := ml3 1 _ l1_1 rfl
    have l3_4 : en_ld l3 4 = some (.inl (sgM v 0)) := ml3 4 _ hl1 rfl
    refine ex_go (S := (3, l3, [], t0, n, 0)) rfl (fun _ => rfl) rfl ?_
    have hq : fd1 len (sgM v 0) = len := fd1_n (by first | decide | omega)
    have hqS : fS1 len S (sgM v 0) = S := fS1_n (by first | decide | omega)
    show en_ex _ _ _ _ _ (fun o => ∃ r, o = .inl r ∧ ∃ t', r = (none, t', n, 0) ∧ ai_HG ah_G t' ∧ ai_hv t' 1 0 = some (.inl (fd1 len (sgM v 0))) ∧ tp t' 2 (fS1 len S (sgM v 0)) (fd1 len (sgM v 0)) ∧ (∀ c i, ¬ ((c = 1 ∧ i = 0) ∨ c = 2) → ai_hv t' c i = ai_hv tb c i))
    rw [hq, hqS]
    exact fyC_e _ _ _ t0 (by first | decide | omega) g0 k0 hS (fun c i h => e0 c i h) l3_0 l3_1 hl3
  · refine gx_2f (c := .ge) rfl (by first | decide | omega) (by first | decide | omega) hc2 rfl ?_
    refine gx_ld (i := 4) (d := 0) (v := .inl (sgM v 0)) rfl (fun _ => rfl) hl1 rfl rfl ?_
    refine ex_go (S := (31, l1, [.inl 10, .inl (sgM v 0)], t0, n, 0)) rfl (fun _ => rfl) rfl ?_
    by_cases hc4 : sgM v 0 = 10
    · refine gx_2t (c := .eq) rfl (by first | decide | omega) (by first | decide | omega) hc4 rfl ?_
      refine gx_ld (i := 0) (d := 2) (v := gx_r 1) rfl (fun _ => rfl) l1_0 rfl rfl ?_
      refine gxo_ref (a := 1) (c := 2) rfl g0 rfl rfl rfl rfl rfl ?_
      refine gx_ld (i := 0) (d := 2) (v := gx_r 1) rfl (fun _ => rfl) l1_0 rfl rfl ?_
      refine gxo_get (a := 1) rfl g0 rfl rfl k0 rfl ?_
      refine gx_ld (i := 4) (d := 0) (v := .inl (sgM v 0)) rfl (fun _ => rfl) hl1 rfl rfl ?_
      refine gx_i2bx rfl (by first | decide | omega) rfl ?_
      refine gx_apv (d := 2) rfl (fun _ => rfl) g0 rfl rfl (gx_bfit (by first | decide | omega)) (show len < 1000 from by omega) (gx_run1 (show len < 1000 from by omega)) (gx_brh (by first | decide | omega) (by first | decide | omega)) rfl (fun t105 g105 k105 e105 => ?_)
      have k6 : ai_hv t105 1 0 = some (.inl len) := (e105 1 0 (by first | decide | omega)).trans k0
      refine gx_ld (i := 0) (d := 2) (v := gx_r 1) rfl (fun _ => rfl) l1_0 rfl rfl ?_
      refine ex_go (S := (62, l1, [gx_r 1, gx_r 1], t105, n, 0)) rfl (fun _ => rfl) rfl ?_
      refine gxo_get (a := 1) rfl g105 rfl rfl k6 rfl ?_
      refine ex_go (S := (66, l1, [.inl 1, .inl len, gx_r 1], t105, n, 0)) rfl (fun _ => rfl) rfl ?_
      refine ex_iadd rfl (by first | decide | omega) rfl ?_
      refine gxo_put (a := 1) rfl g105 rfl rfl rfl (ai_in_h (by first | decide | omega) (by first | decide | omega) (by first | decide | omega)) rfl (fun t107 g107 k107 e107 => ?_)
      have k8 : ai_hv t107 2 len = some (.inl (sgM v 0)) := (e107 2 len (by first | decide | omega)).trans k105
      refine gx_incC (i := 3) (a := 0) (b := 4294967288) rfl (fun _ => rfl) l1_3 rfl rfl (fun l9 hl9 ml9 => ?_)
      have l9_0 : en_ld l9 0 = some (gx_r 1) := ml9 0 _ l1_0 rfl
      have l9_1 : en_ld l9 1 = some (.inr (.inl v)) := ml9 1 _ l1_1 rfl
      have l9_4 : en_ld l9 4 = some (.inl (sgM v 0)) := ml9 4 _ hl1 rfl
      refine ex_go (S := (3, l9, [], t107, n, 0)) rfl (fun _ => rfl) rfl ?_
      have hq : fd1 len (sgM v 0) = len + 1 := fd1_y (by first | decide | omega) (by first | decide | omega)
      have hqS : fS1 len S (sgM v 0) = nx S len (sgM v 0) := fS1_y (by first | decide | omega) (by first | decide | omega)
      show en_ex _ _ _ _ _ (fun o => ∃ r, o = .inl r ∧ ∃ t', r = (none, t', n, 0) ∧ ai_HG ah_G t' ∧ ai_hv t' 1 0 = some (.inl (fd1 len (sgM v 0))) ∧ tp t' 2 (fS1 len S (sgM v 0)) (fd1 len (sgM v 0)) ∧ (∀ c i, ¬ ((c = 1 ∧ i = 0) ∨ c = 2) → ai_hv t' c i = ai_hv tb c i))
      rw [hq, hqS]
      exact fyC_e _ _ _ t107 (by first | decide | omega) g107 k107 (tp_up hS (fun i hi => (e107 2 i (by first | decide | omega)).trans (e105 2 i (by first | decide | omega))) k8 (by first | decide | omega)) (fun c i h => (e107 c i (by first | decide | omega)).trans ((e105 c i (by first | decide | omega)).trans (e0 c i h))) l9_0 l9_1 hl9
    · refine gx_2f (c := .eq) rfl (by first | decide | omega) (by first | decide | omega) hc4 rfl ?_
      refine gx_ld (i := 4) (d := 0) (v := .inl (sgM v 0)) rfl (fun _ => rfl) hl1 rfl rfl ?_
      refine ex_go (S := (38, l1, [.inl 32, .inl (sgM v 0)], t0, n, 0)) rfl (fun _ => rfl) rfl ?_
      by_cases hc10 : sgM v 0 < 32
      · refine gx_2t (c := .lt) rfl (by first | decide | omega) (by first | decide | omega) hc10 rfl ?_
        refine gx_incC (i := 3) (a := 0) (b := 4294967288) rfl (fun _ => rfl) l1_3 rfl rfl (fun l11 hl11 ml11 => ?_)
        have l11_0 : en_ld l11 0 = some (gx_r 1) := ml11 0 _ l1_0 rfl
        have l11_1 : en_ld l11 1 = some (.inr (.inl v)) := ml11 1 _ l1_1 rfl
        have l11_4 : en_ld l11 4 = some (.inl (sgM v 0)) := ml11 4 _ hl1 rfl
        refine ex_go (S := (3, l11, [], t0, n, 0)) rfl (fun _ => rfl) rfl ?_
        have hq : fd1 len (sgM v 0) = len := fd1_n (by first | decide | omega)
        have hqS : fS1 len S (sgM v 0) = S := fS1_n (by first | decide | omega)
        show en_ex _ _ _ _ _ (fun o => ∃ r, o = .inl r ∧ ∃ t', r = (none, t', n, 0) ∧ ai_HG ah_G t' ∧ ai_hv t' 1 0 = some (.inl (fd1 len (sgM v 0))) ∧ tp t' 2 (fS1 len S (sgM v 0)) (fd1 len (sgM v 0)) ∧ (∀ c i, ¬ ((c = 1 ∧ i = 0) ∨ c = 2) → ai_hv t' c i = ai_hv tb c i))
        rw [hq, hqS]
        exact fyC_e _ _ _ t0 (by first | decide | omega) g0 k0 hS (fun c i h => e0 c i h) l11_0 l11_1 hl11
      · refine gx_2f (c := .lt) rfl (by first | decide | omega) (by first | decide | omega) hc10 rfl ?_
        refine gx_ld (i := 4) (d := 0) (v := .inl (sgM v 0)) rfl (fun _ => rfl) hl1 rfl rfl ?_
        refine ex_go (S := (45, l1, [.inl 126, .inl (sgM v 0)], t0, n, 0)) rfl (fun _ => rfl) rfl ?_
        by_cases hc12 : 126 < sgM v 0
        · refine gx_2t (c := .gt) rfl (by first | decide | omega) (by first | decide | omega) hc12 rfl ?_
          refine gx_incC (i := 3) (a := 0) (b := 4294967288) rfl (fun _ => rfl) l1_3 rfl rfl (fun l13 hl13 ml13 => ?_)
          have l13_0 : en_ld l13 0 = some (gx_r 1) := ml13 0 _ l1_0 rfl
          have l13_1 : en_ld l13 1 = some (.inr (.inl v)) := ml13 1 _ l1_1 rfl
          have l13_4 : en_ld l13 4 = some (.inl (sgM v 0)) := ml13 4 _ hl1 rfl
          refine ex_go (S := (3, l13, [], t0, n, 0)) rfl (fun _ => rfl) rfl ?_
          have hq : fd1 len (sgM v 0) = len := fd1_n (by first | decide | omega)
          have hqS : fS1 len S (sgM v 0) = S := fS1_n (by first | decide | omega)
          show en_ex _ _ _ _ _ (fun o => ∃ r, o = .inl r ∧ ∃ t', r = (none, t', n, 0) ∧ ai_HG ah_G t' ∧ ai_hv t' 1 0 = some (.inl (fd1 len (sgM v 0))) ∧ tp t' 2 (fS1 len S (sgM v 0)) (fd1 len (sgM v 0)) ∧ (∀ c i, ¬ ((c = 1 ∧ i = 0) ∨ c = 2) → ai_hv t' c i = ai_hv tb c i))
          rw [hq, hqS]
          exact fyC_e _ _ _ t0 (by first | decide | omega) g0 k0 hS (fun c i h => e0 c i h) l13_0 l13_1 hl13
        · refine gx_2f (c := .gt) rfl (by first | decide | omega) (by first | decide | omega) hc12 rfl ?_
          refine gx_ld (i := 0) (d := 2) (v := gx_r 1) rfl (fun _ => rfl) l1_0 rfl rfl ?_
          refine gxo_ref (a := 1) (c := 2) rfl g0 rfl rfl rfl rfl rfl ?_
          refine gx_ld (i := 0) (d := 2) (v := gx_r 1) rfl (fun _ => rfl) l1_0 rfl rfl ?_
          refine gxo_get (a := 1) rfl g0 rfl rfl k0 rfl ?_
          refine gx_ld (i := 4) (d := 0) (v := .inl (sgM v 0)) rfl (fun _ => rfl) hl1 rfl rfl ?_
          refine gx_i2bx rfl (by first | decide | omega) rfl ?_
          refine gx_apv (d := 2) rfl (fun _ => rfl) g0 rfl rfl (gx_bfit (by first | decide | omega)) (show len < 1000 from by omega) (gx_run1 (show len < 1000 from by omega)) (gx_brh (by first | decide | omega) (by first | decide | omega)) rfl (fun t114 g114 k114 e114 => ?_)
          have k15 : ai_hv t114 1 0 = some (.inl len) := (e114 1 0 (by first | decide | omega)).trans k0
          refine gx_ld (i := 0) (d := 2) (v := gx_r 1) rfl (fun _ => rfl) l1_0 rfl rfl ?_
          refine ex_go (S := (62, l1, [gx_r 1, gx_r 1], t114, n, 0)) rfl (fun _ => rfl) rfl ?_
          refine gxo_get (a := 1) rfl g114 rfl rfl k15 rfl ?_
          refine ex_go (S := (66, l1, [.inl 1, .inl len, gx_r 1], t114, n, 0)) rfl (fun _ => rfl) rfl ?_
          refine ex_iadd rfl (by first | decide | omega) rfl ?_
          refine gxo_put (a := 1) rfl g114 rfl rfl rfl (ai_in_h (by first | decide | omega) (by first | decide | omega) (by first | decide | omega)) rfl (fun t116 g116 k116 e116 => ?_)
          have k17 : ai_hv t116 2 len = some (.inl (sgM v 0)) := (e116 2 len (by first | decide | omega)).trans k114
          refine gx_incC (i := 3) (a := 0) (b := 4294967288) rfl (fun _ => rfl) l1_3 rfl rfl (fun l18 hl18 ml18 => ?_)
          have l18_0 : en_ld l18 0 = some (gx_r 1) := ml18 0 _ l1_0 rfl
          have l18_1 : en_ld l18 1 = some (.inr (.inl v)) := ml18 1 _ l1_1 rfl
          have l18_4 : en_ld l18 4 = some (.inl (sgM v 0)) := ml18 4 _ hl1 rfl
          refine ex_go (S := (3, l18, [], t116, n, 0)) rfl (fun _ => rfl) rfl ?_
          have hq : fd1 len (sgM v 0) = len + 1 := fd1_y (by first | decide | omega) (by first | decide | omega)
          have hqS : fS1 len S (sgM v 0) = nx S len (sgM v 0) := fS1_y (by first | decide | omega) (by first | decide | omega)
          show en_ex _ _ _ _ _ (fun o => ∃ r, o = .inl r ∧ ∃ t', r = (none, t', n, 0) ∧ ai_HG ah_G t' ∧ ai_hv t' 1 0 = some (.inl (fd1 len (sgM v 0))) ∧ tp t' 2 (fS1 len S (sgM v 0)) (fd1 len (sgM v 0)) ∧ (∀ c i, ¬ ((c = 1 ∧ i = 0) ∨ c = 2) → ai_hv t' c i = ai_hv tb c i))
          rw [hq, hqS]
          exact fyC_e _ _ _ t116 (by first | decide | omega) g116 k116 (tp_up hS (fun i hi => (e116 2 i (by first | decide | omega)).trans (e114 2 i (by first | decide | omega))) k17 (by first | decide | omega)) (fun c i h => (e116 c i (by first | decide | omega)).trans ((e114 c i (by first | decide | omega)).trans (e0 c i h))) l18_0 l18_1 hl18
theorem fyC_8 {fn : en_F} {n v : Nat} {tb : en_H} (len : Nat) (S : Nat → Nat) (cl : en_L) (t0 : en_H) (hl : len ≤ 1000) (g0 : ai_HG ah_G t0) (k0 : ai_hv t0 1 0 = some (.inl len)) (hS : tp t0 2 S len) (e0 : (∀ c i, ¬ ((c = 1 ∧ i = 0) ∨ c = 2) → ai_hv t0 c i = ai_hv tb c i)) (h0 : en_ld cl 0 = some (gx_r 1)) (h1 : en_ld cl 1 = some (.inr (.inl v))) (h3 : en_ld cl 3 = some (.inl 8)) : en_ex none fn (en_code 90) (fun _ => false) (3, cl, [], t0, n, 0) (fun o => ∃ r, o = .inl r ∧ ∃ t', r = (none, t', n, 0) ∧ ai_HG ah_G t' ∧ ai_hv t' 1 0 = some (.inl (fdv_8 v len)) ∧ tp t' 2 (fSv_8 v len S) (fdv_8 v len) ∧ (∀ c i, ¬ ((c = 1 ∧ i = 0) ∨ c = 2) → ai_hv t' c i = ai_hv tb c i)) := by
  have hg := sgM_le v 8
  refine gx_ld (i := 3) (d := 0) (v := .inl 8) rfl (fun _ => rfl) h3 rfl rfl ?_
  refine ex_go (S := (7, cl, [], t0, n, 0)) rfl (fun _ => rfl) rfl ?_
  refine gx_ld (i := 1) (d := 1) (v := .inr (.inl v)) rfl (fun _ => rfl) h1 rfl rfl ?_
  refine gx_ld (i := 3) (d := 0) (v := .inl 8) rfl (fun _ => rfl) h3 rfl rfl ?_
  refine ex_go (S := (10, cl, [.inr (.inl (en_lshr v 8))], t0, n, 0)) rfl (fun _ => rfl) rfl ?_
  refine ex_go (S := (13, cl, [.inr (.inl 255), .inr (.inl (en_lshr v 8))], t0, n, 0)) rfl (fun _ => rfl) rfl ?_
  refine ex_go (S := (14, cl, [.inr (.inl (en_land (en_lshr v 8) 255))], t0, n, 0)) rfl (fun _ => rfl) rfl ?_
  refine ex_go (S := (15, cl, [.inl ((lN (en_land (en_lshr v 8) 255)).toInt32.toBitVec.toNat)], t0, n, 0)) rfl (fun _ => rfl) rfl ?_
  rw [show (lN (en_land (en_lshr v 8) 255)).toInt32.toBitVec.toNat = sgM v 8 from sgC_M v 8]
  refine gx_sto (i := 4) (d := 0) rfl (fun _ => rfl) rfl rfl (fun l1 hl1 ml1 => ?_)
  have l1_0 : en_ld l1 0 = some (gx_r 1) := ml1 0 _ h0 rfl
  have l1_1 : en_ld l1 1 = some (.inr (.inl v)) := ml1 1 _ h1 rfl
  have l1_3 : en_ld l1 3 = some (.inl 8) := ml1 3 _ h3 rfl
  refine gx_ld (i := 0) (d := 2) (v := gx_r 1) rfl (fun _ => rfl) l1_0 rfl rfl ?_
  refine gxo_get (a := 1) rfl g0 rfl rfl k0 rfl ?_
  refine ex_go (S := (24, l1, [.inl 1000, .inl len], t0, n, 0)) rfl (fun _ => rfl) rfl ?_
  by_cases hc2 : 1000 ≤ len
  · refine gx_2t (c := .ge) rfl (by first | decide | omega) (by first | decide | omega) hc2 rfl ?_
    refine gx_incC (i := 3) (a := 8) (b := 0) rfl (fun _ => rfl) l1_3 rfl rfl (fun l3 hl3 ml3 => ?_)
    have l3_0 : en_ld l3 0 = some (gx_r 1) := ml3 0 _ l1_0 rfl
    have l3_1 : en_ld l3 1 = some (.inr (.inl v)) := ml3 1 _ l1_1 rfl
    have l3_4 : en_ld l3 4 = some (.inl (sgM v 8)) := ml3 4 _ hl1 rfl
    refine ex_go (S := (3, l3, [], t0, n, 0)) rfl (fun _ => rfl) rfl ?_
    have hq : fd1 len (sgM v 8) = len := fd1_n (by first | decide | omega)
    have hqS : fS1 len S (sgM v 8) = S := fS1_n (by first | decide | omega)
    show en_ex _ _ _ _ _ (fun o => ∃ r, o = .inl r ∧ ∃ t', r = (none, t', n, 0) ∧ ai_HG ah_G t' ∧ ai_hv t' 1 0 = some (.inl (fdv_0 v (fd1 len (sgM v 8)))) ∧ tp t' 2 (fSv_0 v (fd1 len (sgM v 8)) (fS1 len S (sgM v 8))) (fdv_0 v (fd1 len (sgM v 8))) ∧ (∀ c i, ¬ ((c = 1 ∧ i = 0) ∨ c = 2) → ai_hv t' c i = ai_hv tb c i))
    rw [hq, hqS]
    exact fyC_0 _ _ _ t0 (by first | decide | omega) g0 k0 hS (fun c i h => e0 c i h) l3_0 l3_1 hl3
  · refine gx_2f (c := .ge) rfl (by first | decide | omega) (by first | decide | omega) hc2 rfl ?_
    refine gx_ld (i := 4) (d := 0) (v := .inl (sgM v 8)) rfl (fun _ => rfl) hl1 rfl rfl ?_
    refine ex_go (S := (31, l1, [.inl 10, .inl (sgM v 8)], t0, n, 0)) rfl (fun _ => rfl) rfl ?_
    by_cases hc4 : sgM v 8 = 10
    · refine gx_2t (c := .eq) rfl (by first | decide | omega) (by first | decide | omega) hc4 rfl ?_
      refine gx_ld (i := 0) (d := 2) (v := gx_r 1) rfl (fun _ => rfl) l1_0 rfl rfl ?_
      refine gxo_ref (a := 1) (c := 2) rfl g0 rfl rfl rfl rfl rfl ?_
      refine gx_ld (i := 0) (d := 2) (v := gx_r 1) rfl (fun _ => rfl) l1_0 rfl rfl ?_
      refine gxo_get (a := 1) rfl g0 rfl rfl k0 rfl ?_
      refine gx_ld (i := 4) (d := 0) (v := .inl (sgM v 8)) rfl (fun _ => rfl) hl1 rfl rfl ?_
      refine gx_i2bx rfl (by first | decide | omega) rfl ?_
      refine gx_apv (d := 2) rfl (fun _ => rfl) g0 rfl rfl (gx_bfit (by first | decide | omega)) (show len < 1000 from by omega) (gx_run1 (show len < 1000 from by omega)) (gx_brh (by first | decide | omega) (by first | decide | omega)) rfl (fun t105 g105 k105 e105 => ?_)
      have k6 : ai_hv t105 1 0 = some (.inl len) := (e105 1 0 (by first | decide | omega)).trans k0
      refine gx_ld (i := 0) (d := 2) (v := gx_r 1) rfl (fun _ => rfl) l1_0 rfl rfl ?_
      refine ex_go (S := (62, l1, [gx_r 1, gx_r 1], t105, n, 0)) rfl (fun _ => rfl) rfl ?_
      refine gxo_get (a := 1) rfl g105 rfl rfl k6 rfl ?_
      refine ex_go (S := (66, l1, [.inl 1, .inl len, gx_r 1], t105, n, 0)) rfl (fun _ => rfl) rfl ?_
      refine ex_iadd rfl (by first | decide | omega) rfl ?_
      refine gxo_put (a := 1) rfl g105 rfl rfl rfl (ai_in_h (by first | decide | omega) (by first | decide | omega) (by first | decide | omega)) rfl (fun t107 g107 k107 e107 => ?_)
      have k8 : ai_hv t107 2 len = some (.inl (sgM v 8)) := (e107 2 len (by first | decide | omega)).trans k105
      refine gx_incC (i := 3) (a := 8) (b := 0) rfl (fun _ => rfl) l1_3 rfl rfl (fun l9 hl9 ml9 => ?_)
      have l9_0 : en_ld l9 0 = some (gx_r 1) := ml9 0 _ l1_0 rfl
      have l9_1 : en_ld l9 1 = some (.inr (.inl v)) := ml9 1 _ l1_1 rfl
      have l9_4 : en_ld l9 4 = some (.inl (sgM v 8)) := ml9 4 _ hl1 rfl
      refine ex_go (S := (3, l9, [], t107, n, 0)) rfl (fun _ => rfl) rfl ?_
      have hq : fd1 len (sgM v 8) = len + 1 := fd1_y (by first | decide | omega) (by first | decide | omega)
      have hqS : fS1 len S (sgM v 8) = nx S len (sgM v 8) := fS1_y (by first | decide | omega) (by first | decide | omega)
      show en_ex _ _ _ _ _ (fun o => ∃ r, o = .inl r ∧ ∃ t', r = (none, t', n, 0) ∧ ai_HG ah_G t' ∧ ai_hv t' 1 0 = some (.inl (fdv_0 v (fd1 len (sgM v 8)))) ∧ tp t' 2 (fSv_0 v (fd1 len (sgM v 8)) (fS1 len S (sgM v 8))) (fdv_0 v (fd1 len (sgM v 8))) ∧ (∀ c i, ¬ ((c = 1 ∧ i = 0) ∨ c = 2) → ai_hv t' c i = ai_hv tb c i))
      rw [hq, hqS]
      exact fyC_0 _ _ _ t107 (by first | decide | omega) g107 k107 (tp_up hS (fun i hi => (e107 2 i (by first | decide | omega)).trans (e105 2 i (by first | decide | omega))) k8 (by first | decide | omega)) (fun c i h => (e107 c i (by first | decide | omega)).trans ((e105 c i (by first | decide | omega)).trans (e0 c i h))) l9_0 l9_1 hl9
    · refine gx_2f (c := .eq) rfl (by first | decide | omega) (by first | decide | omega) hc4 rfl ?_
      refine gx_ld (i := 4) (d := 0) (v := .inl (sgM v 8)) rfl (fun _ => rfl) hl1 rfl rfl ?_
      refine ex_go (S := (38, l1, [.inl 32, .inl (sgM v 8)], t0, n, 0)) rfl (fun _ => rfl) rfl ?_
      by_cases hc10 : sgM v 8 < 32
      · refine gx_2t (c := .lt) rfl (by first | decide | omega) (by first | decide | omega) hc10 rfl ?_
        refine gx_incC (i := 3) (a := 8) (b := 0) rfl (fun _ => rfl) l1_3 rfl rfl (fun l11 hl11 ml11 => ?_)
        have l11_0 : en_ld l11 0 = some (gx_r 1) := ml11 0 _ l1_0 rfl
        have l11_1 : en_ld l11 1 = some (.inr (.inl v)) := ml11 1 _ l1_1 rfl
        have l11_4 : en_ld l11 4 = some (.inl (sgM v 8)) := ml11 4 _ hl1 rfl
        refine ex_go (S := (3, l11, [], t0, n, 0)) rfl (fun _ => rfl) rfl ?_
        have hq : fd1 len (sgM v 8) = len := fd1_n (by first | decide | omega)
        have hqS : fS1 len S (sgM v 8) = S := fS1_n (by first | decide | omega)
        show en_ex _ _ _ _ _ (fun o => ∃ r, o = .inl r ∧ ∃ t', r = (none, t', n, 0) ∧ ai_HG ah_G t' ∧ ai_hv t' 1 0 = some (.inl (fdv_0 v (fd1 len (sgM v 8)))) ∧ tp t' 2 (fSv_0 v (fd1 len (sgM v 8)) (fS1 len S (sgM v 8))) (fdv_0 v (fd1 len (sgM v 8))) ∧ (∀ c i, ¬ ((c = 1 ∧ i = 0) ∨ c = 2) → ai_hv t' c i = ai_hv tb c i))
        rw [hq, hqS]
        exact fyC_0 _ _ _ t0 (by first | decide | omega) g0 k0 hS (fun c i h => e0 c i h) l11_0 l11_1 hl11
      · refine gx_2f (c := .lt) rfl (by first | decide | omega) (by first | decide | omega) hc10 rfl ?_
        refine gx_ld (i := 4) (d := 0) (v := .inl (sgM v 8)) rfl (fun _ => rfl) hl1 rfl rfl ?_
        refine ex_go (S := (45, l1, [.inl 126, .inl (sgM v 8)], t0, n, 0)) rfl (fun _ => rfl) rfl ?_
        by_cases hc12 : 126 < sgM v 8
        · refine gx_2t (c := .gt) rfl (by first | decide | omega) (by first | decide | omega) hc12 rfl ?_
          refine gx_incC (i := 3) (a := 8) (b := 0) rfl (fun _ => rfl) l1_3 rfl rfl (fun l13 hl13 ml13 => ?_)
          have l13_0 : en_ld l13 0 = some (gx_r 1) := ml13 0 _ l1_0 rfl
          have l13_1 : en_ld l13 1 = some (.inr (.inl v)) := ml13 1 _ l1_1 rfl
          have l13_4 : en_ld l13 4 = some (.inl (sgM v 8)) := ml13 4 _ hl1 rfl
          refine ex_go (S := (3, l13, [], t0, n, 0)) rfl (fun _ => rfl) rfl ?_
          have hq : fd1 len (sgM v 8) = len := fd1_n (by first | decide | omega)
          have hqS : fS1 len S (sgM v 8) = S := fS1_n (by first | decide | omega)
          show en_ex _ _ _ _ _ (fun o => ∃ r, o = .inl r ∧ ∃ t', r = (none, t', n, 0) ∧ ai_HG ah_G t' ∧ ai_hv t' 1 0 = some (.inl (fdv_0 v (fd1 len (sgM v 8)))) ∧ tp t' 2 (fSv_0 v (fd1 len (sgM v 8)) (fS1 len S (sgM v 8))) (fdv_0 v (fd1 len (sgM v 8))) ∧ (∀ c i, ¬ ((c = 1 ∧ i = 0) ∨ c = 2) → ai_hv t' c i = ai_hv tb c i))
          rw [hq, hqS]
          exact fyC_0 _ _ _ t0 (by first | decide | omega) g0 k0 hS (fun c i h => e0 c i h) l13_0 l13_1 hl13
        · refine gx_2f (c := .gt) rfl (by first | decide | omega) (by first | decide | omega) hc12 rfl ?_
          refine gx_ld (i := 0) (d := 2) (v := gx_r 1) rfl (fun _ => rfl) l1_0 rfl rfl ?_
          refine gxo_ref (a := 1) (c := 2) rfl g0 rfl rfl rfl rfl rfl ?_
          refine gx_ld (i := 0) (d := 2) (v := gx_r 1) rfl (fun _ => rfl) l1_0 rfl rfl ?_
          refine gxo_get (a := 1) rfl g0 rfl rfl k0 rfl ?_
          refine gx_ld (i := 4) (d := 0) (v := .inl (sgM v 8)) rfl (fun _ => rfl) hl1 rfl rfl ?_
          refine gx_i2bx rfl (by first | decide | omega) rfl ?_
          refine gx_apv (d := 2) rfl (fun _ => rfl) g0 rfl rfl (gx_bfit (by first | decide | omega)) (show len < 1000 from by omega) (gx_run1 (show len < 1000 from by omega)) (gx_brh (by first | decide | omega) (by first | decide | omega)) rfl (fun t114 g114 k114 e114 => ?_)
          have k15 : ai_hv t114 1 0 = some (.inl len) := (e114 1 0 (by first | decide | omega)).trans k0
          refine gx_ld (i := 0) (d := 2) (v := gx_r 1) rfl (fun _ => rfl) l1_0 rfl rfl ?_
          refine ex_go (S := (62, l1, [gx_r 1, gx_r 1], t114, n, 0)) rfl (fun _ => rfl) rfl ?_
          refine gxo_get (a := 1) rfl g114 rfl rfl k15 rfl ?_
          refine ex_go (S := (66, l1, [.inl 1, .inl len, gx_r 1], t114, n, 0)) rfl (fun _ => rfl) rfl ?_
          refine ex_iadd rfl (by first | decide | omega) rfl ?_
          refine gxo_put (a := 1) rfl g114 rfl rfl rfl (ai_in_h (by first | decide | omega) (by first | decide | omega) (by first | decide | omega)) rfl (fun t116 g116 k116 e116 => ?_)
          have k17 : ai_hv t116 2 len = some (.inl (sgM v 8)) := (e116 2 len (by first | decide | omega)).trans k114
          refine gx_incC (i := 3) (a := 8) (b := 0) rfl (fun _ => rfl) l1_3 rfl rfl (fun l18 hl18 ml18 => ?_)
          have l18_0 : en_ld l18 0 = some (gx_r 1) := ml18 0 _ l1_0 rfl
          have l18_1 : en_ld l18 1 = some (.inr (.inl v)) := ml18 1 _ l1_1 rfl
          have l18_4 : en_ld l18 4 = some (.inl (sgM v 8)) := ml18 4 _ hl1 rfl
          refine ex_go (S := (3, l18, [], t116, n, 0)) rfl (fun _ => rfl) rfl ?_
          have hq : fd1 len (sgM v 8) = len + 1 := fd1_y (by first | decide | omega) (by first | decide | omega)
          have hqS : fS1 len S (sgM v 8) = nx S len (sgM v 8) := fS1_y (by first | decide | omega) (by first | decide | omega)
          show en_ex _ _ _ _ _ (fun o => ∃ r, o = .inl r ∧ ∃ t', r = (none, t', n, 0) ∧ ai_HG ah_G t' ∧ ai_hv t' 1 0 = some (.inl (fdv_0 v (fd1 len (sgM v 8)))) ∧ tp t' 2 (fSv_0 v (fd1 len (sgM v 8)) (fS1 len S (sgM v 8))) (fdv_0 v (fd1 len (sgM v 8))) ∧ (∀ c i, ¬ ((c = 1 ∧ i = 0) ∨ c = 2) → ai_hv t' c i = ai_hv tb c i))
          rw [hq, hqS]
          exact fyC_0 _ _ _ t116 (by first | decide | omega) g116 k116 (tp_up hS (fun i hi => (e116 2 i (by first | decide | omega)).trans (e114 2 i (by first | decide | omega))) k17 (by first | decide | omega)) (fun c i h => (e116 c i (by first | decide | omega)).trans ((e114 c i (by first | decide | omega)).trans (e0 c i h))) l18_0 l18_1 hl18
theorem fyC_16 {fn : en_F} {n v : Nat} {tb : en_H} (len : Nat) (S : Nat → Nat) (cl : en_L) (t0 : en_H) (hl : len ≤ 1000) (g0 : ai_HG ah_G t0) (k0 : ai_hv t0 1 0 = some (.inl len)) (hS : tp t0 2 S len) (e0 : (∀ c i, ¬ ((c = 1 ∧ i = 0) ∨ c = 2) → ai_hv t0 c i = ai_hv tb c i)) (h0 : en_ld cl 0 = some (gx_r 1)) (h1 : en_ld cl 1 = some (.inr (.inl v))) (h3 : en_ld cl 3 = some (.inl 16)) : en_ex none fn (en_code 90) (fun _ => false) (3, cl, [], t0, n, 0) (fun o => ∃ r, o = .inl r ∧ ∃ t', r = (none, t', n, 0) ∧ ai_HG ah_G t' ∧ ai_hv t' 1 0 = some (.inl (fdv_16 v len)) ∧ tp t' 2 (fSv_16 v len S) (fdv_16 v len) ∧ (∀ c i, ¬ ((c = 1 ∧ i = 0) ∨ c = 2) → ai_hv t' c i = ai_hv tb c i)) := by
  have hg := sgM_le v 16
  refine gx_ld (i := 3) (d := 0) (v := .inl 16) rfl (fun _ => rfl) h3 rfl rfl ?_
  refine ex_go (S := (7, cl, [], t0, n, 0)) rfl (fun _ => rfl) rfl ?_
  refine gx_ld (i := 1) (d := 1) (v := .inr (.inl v)) rfl (fun _ => rfl) h1 rfl rfl ?_
  refine gx_ld (i := 3) (d := 0) (v := .inl 16) rfl (fun _ => rfl) h3 rfl rfl ?_
  refine ex_go (S := (10, cl, [.inr (.inl (en_lshr v 16))], t0, n, 0)) rfl (fun _ => rfl) rfl ?_
  refine ex_go (S := (13, cl, [.inr (.inl 255), .inr (.inl (en_lshr v 16))], t0, n, 0)) rfl (fun _ => rfl) rfl ?_
  refine ex_go (S := (14, cl, [.inr (.inl (en_land (en_lshr v 16) 255))], t0, n, 0)) rfl (fun _ => rfl) rfl ?_
  refine ex_go (S := (15, cl, [.inl ((lN (en_land (en_lshr v 16) 255)).toInt32.toBitVec.toNat)], t0, n, 0)) rfl (fun _ => rfl) rfl ?_
  rw [show (lN (en_land (en_lshr v 16) 255)).toInt32.toBitVec.toNat = sgM v 16 from sgC_M v 16]
  refine gx_sto (i := 4) (d := 0) rfl (fun _ => rfl) rfl rfl (fun l1 hl1 ml1 => ?_)
  have l1_0 : en_ld l1 0 = some (gx_r 1) := ml1 0 _ h0 rfl
  have l1_1 : en_ld l1 1 = some (.inr (.inl v)) := ml1 1 _ h1 rfl
  have l1_3 : en_ld l1 3 = some (.inl 16) := ml1 3 _ h3 rfl
  refine gx_ld (i := 0) (d := 2) (v := gx_r 1) rfl (fun _ => rfl) l1_0 rfl rfl ?_
  refine gxo_get (a := 1) rfl g0 rfl rfl k0 rfl ?_
  refine ex_go (S := (24, l1, [.inl 1000, .inl len], t0, n, 0)) rfl (fun _ => rfl) rfl ?_
  by_cases hc2 : 1000 ≤ len
  · refine gx_2t (c := .ge) rfl (by first | decide | omega) (by first | decide | omega) hc2 rfl ?_
    refine gx_incC (i := 3) (a := 16) (b := 8) rfl (fun _ => rfl) l1_3 rfl rfl (fun l3 hl3 ml3 => ?_)
    have l3_0 : en_ld l3 0 = some (gx_r 1) := ml3 0 _ l1_0 rfl
    have l3_1 : en_ld l3 1 = some (.inr (.inl v)) := ml3 1 _ l1_1 rfl
    have l3_4 : en_ld l3 4 = some (.inl (sgM v 16)) := ml3 4 _ hl1 rfl
    refine ex_go (S := (3, l3, [], t0, n, 0)) rfl (fun _ => rfl) rfl ?_
    have hq : fd1 len (sgM v 16) = len := fd1_n (by first | decide | omega)
    have hqS : fS1 len S (sgM v 16) = S := fS1_n (by first | decide | omega)
    show en_ex _ _ _ _ _ (fun o => ∃ r, o = .inl r ∧ ∃ t', r = (none, t', n, 0) ∧ ai_HG ah_G t' ∧ ai_hv t' 1 0 = some (.inl (fdv_8 v (fd1 len (sgM v 16)))) ∧ tp t' 2 (fSv_8 v (fd1 len (sgM v 16)) (fS1 len S (sgM v 16))) (fdv_8 v (fd1 len (sgM v 16))) ∧ (∀ c i, ¬ ((c = 1 ∧ i = 0) ∨ c = 2) → ai_hv t' c i = ai_hv tb c i))
    rw [hq, hqS]
    exact fyC_8 _ _ _ t0 (by first | decide | omega) g0 k0 hS (fun c i h => e0 c i h) l3_0 l3_1 hl3
  · refine gx_2f (c := .ge) rfl (by first | decide | omega) (by first | decide | omega) hc2 rfl ?_
    refine gx_ld (i := 4) (d := 0) (v := .inl (sgM v 16)) rfl (fun _ => rfl) hl1 rfl rfl ?_
    refine ex_go (S := (31, l1, [.inl 10, .inl (sgM v 16)], t0, n, 0)) rfl (fun _ => rfl) rfl ?_
    by_cases hc4 : sgM v 16 = 10
    · refine gx_2t (c := .eq) rfl (by first | decide | omega) (by first | decide | omega) hc4 rfl ?_
      refine gx_ld (i := 0) (d := 2) (v := gx_r 1) rfl (fun _ => rfl) l1_0 rfl rfl ?_
      refine gxo_ref (a := 1) (c := 2) rfl g0 rfl rfl rfl rfl rfl ?_
      refine gx_ld (i := 0) (d := 2) (v := gx_r 1) rfl (fun _ => rfl) l1_0 rfl rfl ?_
      refine gxo_get (a := 1) rfl g0 rfl rfl k0 rfl ?_
      refine gx_ld (i := 4) (d := 0) (v := .inl (sgM v 16)) rfl (fun _ => rfl) hl1 rfl rfl ?_
      refine gx_i2bx rfl (by first | decide | omega) rfl ?_
      refine gx_apv (d := 2) rfl (fun _ => rfl) g0 rfl rfl (gx_bfit (by first | decide | omega)) (show len < 1000 from by omega) (gx_run1 (show len < 1000 from by omega)) (gx_brh (by first | decide | omega) (by first | decide | omega)) rfl (fun t105 g105 k105 e105 => ?_)
      have k6 : ai_hv t105 1 0 = some (.inl len) := (e105 1 0 (by first | decide | omega)).trans k0
      refine gx_ld (i := 0) (d := 2) (v := gx_r 1) rfl (fun _ => rfl) l1_0 rfl rfl ?_
      refine ex_go (S := (62, l1, [gx_r 1, gx_r 1], t105, n, 0)) rfl (fun _ => rfl) rfl ?_
      refine gxo_get (a := 1) rfl g105 rfl rfl k6 rfl ?_
      refine ex_go (S := (66, l1, [.inl 1, .inl len, gx_r 1], t105, n, 0)) rfl (fun _ => rfl) rfl ?_
      refine ex_iadd rfl (by first | decide | omega) rfl ?_
      refine gxo_put (a := 1) rfl g105 rfl rfl rfl (ai_in_h (by first | decide | omega) (by first | decide | omega) (by first | decide | omega)) rfl (fun t107 g107 k107 e107 => ?_)
      have k8 : ai_hv t107 2 len = some (.inl (sgM v 16)) := (e107 2 len (by first | decide | omega)).trans k105
      refine gx_incC (i := 3) (a := 16) (b := 8) rfl (fun _ => rfl) l1_3 rfl rfl (fun l9 hl9 ml9 => ?_)
      have l9_0 : en_ld l9 0 = some (gx_r 1) := ml9 0 _ l1_0 rfl
      have l9_1 : en_ld l9 1 = some (.inr (.inl v)) := ml9 1 _ l1_1 rfl
      have l9_4 : en_ld l9 4 = some (.inl (sgM v 16)) := ml9 4 _ hl1 rfl
      refine ex_go (S := (3, l9, [], t107, n, 0)) rfl (fun _ => rfl) rfl ?_
      have hq : fd1 len (sgM v 16) = len + 1 := fd1_y (by first | decide | omega) (by first | decide | omega)
      have hqS : fS1 len S (sgM v 16) = nx S len (sgM v 16) := fS1_y (by first | decide | omega) (by first | decide | omega)
      show en_ex _ _ _ _ _ (fun o => ∃ r, o = .inl r ∧ ∃ t', r = (none, t', n, 0) ∧ ai_HG ah_G t' ∧ ai_hv t' 1 0 = some (.inl (fdv_8 v (fd1 len (sgM v 16)))) ∧ tp t' 2 (fSv_8 v (fd1 len (sgM v 16)) (fS1 len S (sgM v 16))) (fdv_8 v (fd1 len (sgM v 16))) ∧ (∀ c i, ¬ ((c = 1 ∧ i = 0) ∨ c = 2) → ai_hv t' c i = ai_hv tb c i))
      rw [hq, hqS]
      exact fyC_8 _ _ _ t107 (by first | decide | omega) g107 k107 (tp_up hS (fun i hi => (e107 2 i (by first | decide | omega)).trans (e105 2 i (by first | decide | omega))) k8 (by first | decide | omega)) (fun c i h => (e107 c i (by first | decide | omega)).trans ((e105 c i (by first | decide | omega)).trans (e0 c i h))) l9_0 l9_1 hl9
    · refine gx_2f (c := .eq) rfl (by first | decide | omega) (by first | decide | omega) hc4 rfl ?_
      refine gx_ld (i := 4) (d := 0) (v := .inl (sgM v 16)) rfl (fun _ => rfl) hl1 rfl rfl ?_
      refine ex_go (S := (38, l1, [.inl 32, .inl (sgM v 16)], t0, n, 0)) rfl (fun _ => rfl) rfl ?_
      by_cases hc10 : sgM v 16 < 32
      · refine gx_2t (c := .lt) rfl (by first | decide | omega) (by first | decide | omega) hc10 rfl ?_
        refine gx_incC (i := 3) (a := 16) (b := 8) rfl (fun _ => rfl) l1_3 rfl rfl (fun l11 hl11 ml11 => ?_)
        have l11_0 : en_ld l11 0 = some (gx_r 1) := ml11 0 _ l1_0 rfl
        have l11_1 : en_ld l11 1 = some (.inr (.inl v)) := ml11 1 _ l1_1 rfl
        have l11_4 : en_ld l11 4 = some (.inl (sgM v 16)) := ml11 4 _ hl1 rfl
        refine ex_go (S := (3, l11, [], t0, n, 0)) rfl (fun _ => rfl) rfl ?_
        have hq : fd1 len (sgM v 16) = len := fd1_n (by first | decide | omega)
        have hqS : fS1 len S (sgM v 16) = S := fS1_n (by first | decide | omega)
        show en_ex _ _ _ _ _ (fun o => ∃ r, o = .inl r ∧ ∃ t', r = (none, t', n, 0) ∧ ai_HG ah_G t' ∧ ai_hv t' 1 0 = some (.inl (fdv_8 v (fd1 len (sgM v 16)))) ∧ tp t' 2 (fSv_8 v (fd1 len (sgM v 16)) (fS1 len S (sgM v 16))) (fdv_8 v (fd1 len (sgM v 16))) ∧ (∀ c i, ¬ ((c = 1 ∧ i = 0) ∨ c = 2) → ai_hv t' c i = ai_hv tb c i))
        rw [hq, hqS]
        exact fyC_8 _ _ _ t0 (by first | decide | omega) g0 k0 hS (fun c i h => e0 c i h) l11_0 l11_1 hl11
      · refine gx_2f (c := .lt) rfl (by first | decide | omega) (by first | decide | omega) hc10 rfl ?_
        refine gx_ld (i := 4) (d := 0) (v := .inl (sgM v 16)) rfl (fun _ => rfl) hl1 rfl rfl ?_
        refine ex_go (S := (45, l1, [.inl 126, .inl (sgM v 16)], t0, n, 0)) rfl (fun _ => rfl) rfl ?_
        by_cases hc12 : 126 < sgM v 16
        · refine gx_2t (c := .gt) rfl (by first | decide | omega) (by first | decide | omega) hc12 rfl ?_
          refine gx_incC (i := 3) (a := 16) (b := 8) rfl (fun _ => rfl) l1_3 rfl rfl (fun l13 hl13 ml13 => ?_)
          have l13_0 : en_ld l13 0 = some (gx_r 1) := ml13 0 _ l1_0 rfl
          have l13_1 : en_ld l13 1 = some (.inr (.inl v)) := ml13 1 _ l1_1 rfl
          have l13_4 : en_ld l13 4 = some (.inl (sgM v 16)) := ml13 4 _ hl1 rfl
          refine ex_go (S := (3, l13, [], t0, n, 0)) rfl (fun _ => rfl) rfl ?_
          have hq : fd1 len (sgM v 16) = len := fd1_n (by first | decide | omega)
          have hqS : fS1 len S (sgM v 16) = S := fS1_n (by first | decide | omega)
          show en_ex _ _ _ _ _ (fun o => ∃ r, o = .inl r ∧ ∃ t', r = (none, t', n, 0) ∧ ai_HG ah_G t' ∧ ai_hv t' 1 0 = some (.inl (fdv_8 v (fd1 len (sgM v 16)))) ∧ tp t' 2 (fSv_8 v (fd1 len (sgM v 16)) (fS1 len S (sgM v 16))) (fdv_8 v (fd1 len (sgM v 16))) ∧ (∀ c i, ¬ ((c = 1 ∧ i = 0) ∨ c = 2) → ai_hv t' c i = ai_hv tb c i))
          rw [hq, hqS]
          exact fyC_8 _ _ _ t0 (by first | decide | omega) g0 k0 hS (fun c i h => e0 c i h) l13_0 l13_1 hl13
        · refine gx_2f (c := .gt) rfl (by first | decide | omega) (by first | decide | omega) hc12 rfl ?_
          refine gx_ld (i := 0) (d := 2) (v := gx_r 1) rfl (fun _ => rfl) l1_0 rfl rfl ?_
          refine gxo_ref (a := 1) (c := 2) rfl g0 rfl rfl rfl rfl rfl ?_
          refine gx_ld (i := 0) (d := 2) (v := gx_r 1) rfl (fun _ => rfl) l1_0 rfl rfl ?_
          refine gxo_get (a := 1) rfl g0 rfl rfl k0 rfl ?_
          refine gx_ld (i := 4) (d := 0) (v := .inl (sgM v 16)) rfl (fun _ => rfl) hl1 rfl rfl ?_
          refine gx_i2bx rfl (by first | decide | omega) rfl ?_
          refine gx_apv (d := 2) rfl (fun _ => rfl) g0 rfl rfl (gx_bfit (by first | decide | omega)) (show len < 1000 from by omega) (gx_run1 (show len < 1000 from by omega)) (gx_brh (by first | decide | omega) (by first | decide | omega)) rfl (fun t114 g114 k114 e114 => ?_)
          have k15 : ai_hv t114 1 0 = some (.inl len) := (e114 1 0 (by first | decide | omega)).trans k0
          refine gx_ld (i := 0) (d := 2) (v := gx_r 1) rfl (fun _ => rfl) l1_0 rfl rfl ?_
          refine ex_go (S := (62, l1, [gx_r 1, gx_r 1], t114, n, 0)) rfl (fun _ => rfl) rfl ?_
          refine gxo_get (a := 1) rfl g114 rfl rfl k15 rfl ?_
          refine ex_go (S := (66, l1, [.inl 1, .inl len, gx_r 1], t114, n, 0)) rfl (fun _ => rfl) rfl ?_
          refine ex_iadd rfl (by first | decide | omega) rfl ?_
          refine gxo_put (a := 1) rfl g114 rfl rfl rfl (ai_in_h (by first | decide | omega) (by first | decide | omega) (by first | decide | omega)) rfl (fun t116 g116 k116 e116 => ?_)
          have k17 : ai_hv t116 2 len = some (.inl (sgM v 16)) := (e116 2 len (by first | decide | omega)).trans k114
          refine gx_incC (i := 3) (a := 16) (b := 8) rfl (fun _ => rfl) l1_3 rfl rfl (fun l18 hl18 ml18 => ?_)
          have l18_0 : en_ld l18 0 = some (gx_r 1) := ml18 0 _ l1_0 rfl
          have l18_1 : en_ld l18 1 = some (.inr (.inl v)) := ml18 1 _ l1_1 rfl
          have l18_4 : en_ld l18 4 = some (.inl (sgM v 16)) := ml18 4 _ hl1 rfl
          refine ex_go (S := (3, l18, [], t116, n, 0)) rfl (fun _ => rfl) rfl ?_
          have hq : fd1 len (sgM v 16) = len + 1 := fd1_y (by first | decide | omega) (by first | decide | omega)
          have hqS : fS1 len S (sgM v 16) = nx S len (sgM v 16) := fS1_y (by first | decide | omega) (by first | decide | omega)
          show en_ex _ _ _ _ _ (fun o => ∃ r, o = .inl r ∧ ∃ t', r = (none, t', n, 0) ∧ ai_HG ah_G t' ∧ ai_hv t' 1 0 = some (.inl (fdv_8 v (fd1 len (sgM v 16)))) ∧ tp t' 2 (fSv_8 v (fd1 len (sgM v 16)) (fS1 len S (sgM v 16))) (fdv_8 v (fd1 len (sgM v 16))) ∧ (∀ c i, ¬ ((c = 1 ∧ i = 0) ∨ c = 2) → ai_hv t' c i = ai_hv tb c i))
          rw [hq, hqS]
          exact fyC_8 _ _ _ t116 (by first | decide | omega) g116 k116 (tp_up hS (fun i hi => (e116 2 i (by first | decide | omega)).trans (e114 2 i (by first | decide | omega))) k17 (by first | decide | omega)) (fun c i h => (e116 c i (by first | decide | omega)).trans ((e114 c i (by first | decide | omega)).trans (e0 c i h))) l18_0 l18_1 hl18
theorem fyC_24 {fn : en_F} {n v : Nat} {tb : en_H} (len : Nat) (S : Nat → Nat) (cl : en_L) (t0 : en_H) (hl : len ≤ 1000) (g0 : ai_HG ah_G t0) (k0 : ai_hv t0 1 0 = some (.inl len)) (hS : tp t0 2 S len) (e0 : (∀ c i, ¬ ((c = 1 ∧ i = 0) ∨ c = 2) → ai_hv t0 c i = ai_hv tb c i)) (h0 : en_ld cl 0 = some (gx_r 1)) (h1 : en_ld cl 1 = some (.inr (.inl v))) (h3 : en_ld cl 3 = some (.inl 24)) : en_ex none fn (en_code 90) (fun _ => false) (3, cl, [], t0, n, 0) (fun o => ∃ r, o = .inl r ∧ ∃ t', r = (none, t', n, 0) ∧ ai_HG ah_G t' ∧ ai_hv t' 1 0 = some (.inl (fdv_24 v len)) ∧ tp t' 2 (fSv_24 v len S) (fdv_24 v len) ∧ (∀ c i, ¬ ((c = 1 ∧ i = 0) ∨ c = 2) → ai_hv t' c i = ai_hv tb c i)) := by
  have hg := sgM_le v 24
  refine gx_ld (i := 3) (d := 0) (v := .inl 24) rfl (fun _ => rfl) h3 rfl rfl ?_
  refine ex_go (S := (7, cl, [], t0, n, 0)) rfl (fun _ => rfl) rfl ?_
  refine gx_ld (i := 1) (d := 1) (v := .inr (.inl v)) rfl (fun _ => rfl) h1 rfl rfl ?_
  refine gx_ld (i := 3) (d := 0) (v := .inl 24) rfl (fun _ => rfl) h3 rfl rfl ?_
  refine ex_go (S := (10, cl, [.inr (.inl (en_lshr v 24))], t0, n, 0)) rfl (fun _ => rfl) rfl ?_
  refine ex_go (S := (13, cl, [.inr (.inl 255), .inr (.inl (en_lshr v 24))], t0, n, 0)) rfl (fun _ => rfl) rfl ?_
  refine ex_go (S := (14, cl, [.inr (.inl (en_land (en_lshr v 24) 255))], t0, n, 0)) rfl (fun _ => rfl) rfl ?_
  refine ex_go (S := (15, cl, [.inl ((lN (en_land (en_lshr v 24) 255)).toInt32.toBitVec.toNat)], t0, n, 0)) rfl (fun _ => rfl) rfl ?_
  rw [show (lN (en_land (en_lshr v 24) 255)).toInt32.toBitVec.toNat = sgM v 24 from sgC_M v 24]
  refine gx_sto (i := 4) (d := 0) rfl (fun _ => rfl) rfl rfl (fun l1 hl1 ml1 => ?_)
  have l1_0 : en_ld l1 0 = some (gx_r 1) := ml1 0 _ h0 rfl
  have l1_1 : en_ld l1 1 = some (.inr (.inl v)) := ml1 1 _ h1 rfl
  have l1_3 : en_ld l1 3 = some (.inl 24) := ml1 3 _ h3 rfl
  refine gx_ld (i := 0) (d := 2) (v := gx_r 1) rfl (fun _ => rfl) l1_0 rfl rfl ?_
  refine gxo_get (a := 1) rfl g0 rfl rfl k0 rfl ?_
  refine ex_go (S := (24, l1, [.inl 1000, .inl len], t0, n, 0)) rfl (fun _ => rfl) rfl ?_
  by_cases hc2 : 1000 ≤ len
  · refine gx_2t (c := .ge) rfl (by first | decide | omega) (by first | decide | omega) hc2 rfl ?_
    refine gx_incC (i := 3) (a := 24) (b := 16) rfl (fun _ => rfl) l1_3 rfl rfl (fun l3 hl3 ml3 => ?_)
    have l3_0 : en_ld l3 0 = some (gx_r 1) := ml3 0 _ l1_0 rfl
    have l3_1 : en_ld l3 1 = some (.inr (.inl v)) := ml3 1 _ l1_1 rfl
    have l3_4 : en_ld l3 4 = some (.inl (sgM v 24)) := ml3 4 _ hl1 rfl
    refine ex_go (S := (3, l3, [], t0, n, 0)) rfl (fun _ => rfl) rfl ?_
    have hq : fd1 len (sgM v 24) = len := fd1_n (by first | decide | omega)
    have hqS : fS1 len S (sgM v 24) = S := fS1_n (by first | decide | omega)
    show en_ex _ _ _ _ _ (fun o => ∃ r, o = .inl r ∧ ∃ t', r = (none, t', n, 0) ∧ ai_HG ah_G t' ∧ ai_hv t' 1 0 = some (.inl (fdv_16 v (fd1 len (sgM v 24)))) ∧ tp t' 2 (fSv_16 v (fd1 len (sgM v 24)) (fS1 len S (sgM v 24))) (fdv_16 v (fd1 len (sgM v 24))) ∧ (∀ c i, ¬ ((c = 1 ∧ i = 0) ∨ c = 2) → ai_hv t' c i = ai_hv tb c i))
    rw [hq, hqS]
    exact fyC_16 _ _ _ t0 (by first | decide | omega) g0 k0 hS (fun c i h => e0 c i h) l3_0 l3_1 hl3
  · refine gx_2f (c := .ge) rfl (by first | decide | omega) (by first | decide | omega) hc2 rfl ?_
    refine gx_ld (i := 4) (d := 0) (v := .inl (sgM v 24)) rfl (fun _ => rfl) hl1 rfl rfl ?_
    refine ex_go (S := (31, l1, [.inl 10, .inl (sgM v 24)], t0, n, 0)) rfl (fun _ => rfl) rfl ?_
    by_cases hc4 : sgM v 24 = 10
    · refine gx_2t (c := .eq) rfl (by first | decide | omega) (by first | decide | omega) hc4 rfl ?_
      refine gx_ld (i := 0) (d := 2) (v := gx_r 1) rfl (fun _ => rfl) l1_0 rfl rfl ?_
      refine gxo_ref (a := 1) (c := 2) rfl g0 rfl rfl rfl rfl rfl ?_
      refine gx_ld (i := 0) (d := 2) (v := gx_r 1) rfl (fun _ => rfl) l1_0 rfl rfl ?_
      refine gxo_get (a := 1) rfl g0 rfl rfl k0 rfl ?_
      refine gx_ld (i := 4) (d := 0) (v := .inl (sgM v 24)) rfl (fun _ => rfl) hl1 rfl rfl ?_
      refine gx_i2bx rfl (by first | decide | omega) rfl ?_
      refine gx_apv (d := 2) rfl (fun _ => rfl) g0 rfl rfl (gx_bfit (by first | decide | omega)) (show len < 1000 from by omega) (gx_run1 (show len < 1000 from by omega)) (gx_brh (by first | decide | omega) (by first | decide | omega)) rfl (fun t105 g105 k105 e105 => ?_)
      have k6 : ai_hv t105 1 0 = some (.inl len) := (e105 1 0 (by first | decide | omega)).trans k0
      refine gx_ld (i := 0) (d := 2) (v := gx_r 1) rfl (fun _ => rfl) l1_0 rfl rfl ?_
      refine ex_go (S := (62, l1, [gx_r 1, gx_r 1], t105, n, 0)) rfl (fun _ => rfl) rfl ?_
      refine gxo_get (a := 1) rfl g105 rfl rfl k6 rfl ?_
      refine ex_go (S := (66, l1, [.inl 1, .inl len, gx_r 1], t105, n, 0)) rfl (fun _ => rfl) rfl ?_
      refine ex_iadd rfl (by first | decide | omega) rfl ?_
      refine gxo_put (a := 1) rfl g105 rfl rfl rfl (ai_in_h (by first | decide | omega) (by first | decide | omega) (by first | decide | omega)) rfl (fun t107 g107 k107 e107 => ?_)
      have k8 : ai_hv t107 2 len = some (.inl (sgM v 24)) := (e107 2 len (by first | decide | omega)).trans k105
      refine gx_incC (i := 3) (a := 24) (b := 16) rfl (fun _ => rfl) l1_3 rfl rfl (fun l9 hl9 ml9 => ?_)
      have l9_0 : en_ld l9 0 = some (gx_r 1) := ml9 0 _ l1_0 rfl
      have l9_1 : en_ld l9 1 = some (.inr (.inl v)) := ml9 1 _ l1_1 rfl
      have l9_4 : en_ld l9 4 = some (.inl (sgM v 24)) := ml9 4 _ hl1 rfl
      refine ex_go (S := (3, l9, [], t107, n, 0)) rfl (fun _ => rfl) rfl ?_
      have hq : fd1 len (sgM v 24) = len + 1 := fd1_y (by first | decide | omega) (by first | decide | omega)
      have hqS : fS1 len S (sgM v 24) = nx S len (sgM v 24) := fS1_y (by first | decide | omega) (by first | decide | omega)
      show en_ex _ _ _ _ _ (fun o => ∃ r, o = .inl r ∧ ∃ t', r = (none, t', n, 0) ∧ ai_HG ah_G t' ∧ ai_hv t' 1 0 = some (.inl (fdv_16 v (fd1 len (sgM v 24)))) ∧ tp t' 2 (fSv_16 v (fd1 len (sgM v 24)) (fS1 len S (sgM v 24))) (fdv_16 v (fd1 len (sgM v 24))) ∧ (∀ c i, ¬ ((c = 1 ∧ i = 0) ∨ c = 2) → ai_hv t' c i = ai_hv tb c i))
      rw [hq, hqS]
      exact fyC_16 _ _ _ t107 (by first | decide | omega) g107 k107 (tp_up hS (fun i hi => (e107 2 i (by first | decide | omega)).trans (e105 2 i (by first | decide | omega))) k8 (by first | decide | omega)) (fun c i h => (e107 c i (by first | decide | omega)).trans ((e105 c i (by first | decide | omega)).trans (e0 c i h))) l9_0 l9_1 hl9
    · refine gx_2f (c := .eq) rfl (by first | decide | omega) (by first | decide | omega) hc4 rfl ?_
      refine gx_ld (i := 4) (d := 0) (v := .inl (sgM v 24)) rfl (fun _ => rfl) hl1 rfl rfl ?_
      refine ex_go (S := (38, l1, [.inl 32, .inl (sgM v 24)], t0, n, 0)) rfl (fun _ => rfl) rfl ?_
      by_cases hc10 : sgM v 24 < 32
      · refine gx_2t (c := .lt) rfl (by first | decide | omega) (by first | decide | omega) hc10 rfl ?_
        refine gx_incC (i := 3) (a := 24) (b := 16) rfl (fun _ => rfl) l1_3 rfl rfl (fun l11 hl11 ml11 => ?_)
        have l11_0 : en_ld l11 0 = some (gx_r 1) := ml11 0 _ l1_0 rfl
        have l11_1 : en_ld l11 1 = some (.inr (.inl v)) := ml11 1 _ l1_1 rfl
        have l11_4 : en_ld l11 4 = some (.inl (sgM v 24)) := ml11 4 _ hl1 rfl
        refine ex_go (S := (3, l11, [], t0, n, 0)) rfl (fun _ => rfl) rfl ?_
        have hq : fd1 len (sgM v 24) = len := fd1_n (by first | decide | omega)
        have hqS : fS1 len S (sgM v 24) = S := fS1_n (by first | decide | omega)
        show en_ex _ _ _ _ _ (fun o => ∃ r, o = .inl r ∧ ∃ t', r = (none, t', n, 0) ∧ ai_HG ah_G t' ∧ ai_hv t' 1 0 = some (.inl (fdv_16 v (fd1 len (sgM v 24)))) ∧ tp t' 2 (fSv_16 v (fd1 len (sgM v 24)) (fS1 len S (sgM v 24))) (fdv_16 v (fd1 len (sgM v 24))) ∧ (∀ c i, ¬ ((c = 1 ∧ i = 0) ∨ c = 2) → ai_hv t' c i = ai_hv tb c i))
        rw [hq, hqS]
        exact fyC_16 _ _ _ t0 (by first | decide | omega) g0 k0 hS (fun c i h => e0 c i h) l11_0 l11_1 hl11
      · refine gx_2f (c := .lt) rfl (by first | decide | omega) (by first | decide | omega) hc10 rfl ?_
        refine gx_ld (i := 4) (d := 0) (v := .inl (sgM v 24)) rfl (fun _ => rfl) hl1 rfl rfl ?_
        refine ex_go (S := (45, l1, [.inl 126, .inl (sgM v 24)], t0, n, 0)) rfl (fun _ => rfl) rfl ?_
        by_cases hc12 : 126 < sgM v 24
        · refine gx_2t (c := .gt) rfl (by first | decide | omega) (by first | decide | omega) hc12 rfl ?_
          refine gx_incC (i := 3) (a := 24) (b := 16) rfl (fun _ => rfl) l1_3 rfl rfl (fun l13 hl13 ml13 => ?_)
          have l13_0 : en_ld l13 0 = some (gx_r 1) := ml13 0 _ l1_0 rfl
          have l13_1 : en_ld l13 1 = some (.inr (.inl v)) := ml13 1 _ l1_1 rfl
          have l13_4 : en_ld l13 4 = some (.inl (sgM v 24)) := ml13 4 _ hl1 rfl
          refine ex_go (S := (3, l13, [], t0, n, 0)) rfl (fun _ => rfl) rfl ?_
          have hq : fd1 len (sgM v 24) = len := fd1_n (by first | decide | omega)
          have hqS : fS1 len S (sgM v 24) = S := fS1_n (by first | decide | omega)
          show en_ex _ _ _ _ _ (fun o => ∃ r, o = .inl r ∧ ∃ t', r = (none, t', n, 0) ∧ ai_HG ah_G t' ∧ ai_hv t' 1 0 = some (.inl (fdv_16 v (fd1 len (sgM v 24)))) ∧ tp t' 2 (fSv_16 v (fd1 len (sgM v 24)) (fS1 len S (sgM v 24))) (fdv_16 v (fd1 len (sgM v 24))) ∧ (∀ c i, ¬ ((c = 1 ∧ i = 0) ∨ c = 2) → ai_hv t' c i = ai_hv tb c i))
          rw [hq, hqS]
          exact fyC_16 _ _ _ t0 (by first | decide | omega) g0 k0 hS (fun c i h => e0 c i h) l13_0 l13_1 hl13
        · refine gx_2f (c := .gt) rfl (by first | decide | omega) (by first | decide | omega) hc12 rfl ?_
          refine gx_ld (i := 0) (d := 2) (v := gx_r 1) rfl (fun _ => rfl) l1_0 rfl rfl ?_
          refine gxo_ref (a := 1) (c := 2) rfl g0 rfl rfl rfl rfl rfl ?_
          refine gx_ld (i := 0) (d := 2) (v := gx_r 1) rfl (fun _ => rfl) l1_0 rfl rfl ?_
          refine gxo_get (a := 1) rfl g0 rfl rfl k0 rfl ?_
          refine gx_ld (i := 4) (d := 0) (v := .inl (sgM v 24)) rfl (fun _ => rfl) hl1 rfl rfl ?_
          refine gx_i2bx rfl (by first | decide | omega) rfl ?_
          refine gx_apv (d := 2) rfl (fun _ => rfl) g0 rfl rfl (gx_bfit (by first | decide | omega)) (show len < 1000 from by omega) (gx_run1 (show len < 1000 from by omega)) (gx_brh (by first | decide | omega) (by first | decide | omega)) rfl (fun t114 g114 k114 e114 => ?_)
          have k15 : ai_hv t114 1 0 = some (.inl len) := (e114 1 0 (by first | decide | omega)).trans k0
          refine gx_ld (i := 0) (d := 2) (v := gx_r 1) rfl (fun _ => rfl) l1_0 rfl rfl ?_
          refine ex_go (S := (62, l1, [gx_r 1, gx_r 1], t114, n, 0)) rfl (fun _ => rfl) rfl ?_
          refine gxo_get (a := 1) rfl g114 rfl rfl k15 rfl ?_
          refine ex_go (S := (66, l1, [.inl 1, .inl len, gx_r 1], t114, n, 0)) rfl (fun _ => rfl) rfl ?_
          refine ex_iadd rfl (by first | decide | omega) rfl ?_
          refine gxo_put (a := 1) rfl g114 rfl rfl rfl (ai_in_h (by first | decide | omega) (by first | decide | omega) (by first | decide | omega)) rfl (fun t116 g116 k116 e116 => ?_)
          have k17 : ai_hv t116 2 len = some (.inl (sgM v 24)) := (e116 2 len (by first | decide | omega)).trans k114
          refine gx_incC (i := 3) (a := 24) (b := 16) rfl (fun _ => rfl) l1_3 rfl rfl (fun l18 hl18 ml18 => ?_)
          have l18_0 : en_ld l18 0 = some (gx_r 1) := ml18 0 _ l1_0 rfl
          have l18_1 : en_ld l18 1 = some (.inr (.inl v)) := ml18 1 _ l1_1 rfl
          have l18_4 : en_ld l18 4 = some (.inl (sgM v 24)) := ml18 4 _ hl1 rfl
          refine ex_go (S := (3, l18, [], t116, n, 0)) rfl (fun _ => rfl) rfl ?_
          have hq : fd1 len (sgM v 24) = len + 1 := fd1_y (by first | decide | omega) (by first | decide | omega)
          have hqS : fS1 len S (sgM v 24) = nx S len (sgM v 24) := fS1_y (by first | decide | omega) (by first | decide | omega)
          show en_ex _ _ _ _ _ (fun o => ∃ r, o = .inl r ∧ ∃ t', r = (none, t', n, 0) ∧ ai_HG ah_G t' ∧ ai_hv t' 1 0 = some (.inl (fdv_16 v (fd1 len (sgM v 24)))) ∧ tp t' 2 (fSv_16 v (fd1 len (sgM v 24)) (fS1 len S (sgM v 24))) (fdv_16 v (fd1 len (sgM v 24))) ∧ (∀ c i, ¬ ((c = 1 ∧ i = 0) ∨ c = 2) → ai_hv t' c i = ai_hv tb c i))
          rw [hq, hqS]
          exact fyC_16 _ _ _ t116 (by first | decide | omega) g116 k116 (tp_up hS (fun i hi => (e116 2 i (by first | decide | omega)).trans (e114 2 i (by first | decide | omega))) k17 (by first | decide | omega)) (fun c i h => (e116 c i (by first | decide | omega)).trans ((e114 c i (by first | decide | omega)).trans (e0 c i h))) l18_0 l18_1 hl18
theorem fyC_32 {fn : en_F} {n v : Nat} {tb : en_H} (len : Nat) (S : Nat → Nat) (cl : en_L) (t0 : en_H) (hl : len ≤ 1000) (g0 : ai_HG ah_G t0) (k0 : ai_hv t0 1 0 = some (.inl len)) (hS : tp t0 2 S len) (e0 : (∀ c i, ¬ ((c = 1 ∧ i = 0) ∨ c = 2) → ai_hv t0 c i = ai_hv tb c i)) (h0 : en_ld cl 0 = some (gx_r 1)) (h1 : en_ld cl 1 = some (.inr (.inl v))) (h3 : en_ld cl 3 = some (.inl 32)) : en_ex none fn (en_code 90) (fun _ => false) (3, cl, [], t0, n, 0) (fun o => ∃ r, o = .inl r ∧ ∃ t', r = (none, t', n, 0) ∧ ai_HG ah_G t' ∧ ai_hv t' 1 0 = some (.inl (fdv_32 v len)) ∧ tp t' 2 (fSv_32 v len S) (fdv_32 v len) ∧ (∀ c i, ¬ ((c = 1 ∧ i = 0) ∨ c = 2) → ai_hv t' c i = ai_hv tb c i)) := by
  have hg := sgM_le v 32
  refine gx_ld (i := 3) (d := 0) (v := .inl 32) rfl (fun _ => rfl) h3 rfl rfl ?_
  refine ex_go (S := (7, cl, [], t0, n, 0)) rfl (fun _ => rfl) rfl ?_
  refine gx_ld (i := 1) (d := 1) (v := .inr (.inl v)) rfl (fun _ => rfl) h1 rfl rfl ?_
  refine gx_ld (i := 3) (d := 0) (v := .inl 32) rfl (fun _ => rfl) h3 rfl rfl ?_
  refine ex_go (S := (10, cl, [.inr (.inl (en_lshr v 32))], t0, n, 0)) rfl (fun _ => rfl) rfl ?_
  refine ex_go (S := (13, cl, [.inr (.inl 255), .inr (.inl (en_lshr v 32))], t0, n, 0)) rfl (fun _ => rfl) rfl ?_
  refine ex_go (S := (14, cl, [.inr (.inl (en_land (en_lshr v 32) 255))], t0, n, 0)) rfl (fun _ => rfl) rfl ?_
  refine ex_go (S := (15, cl, [.inl ((lN (en_land (en_lshr v 32) 255)).toInt32.toBitVec.toNat)], t0, n, 0)) rfl (fun _ => rfl) rfl ?_
  rw [show (lN (en_land (en_lshr v 32) 255)).toInt32.toBitVec.toNat = sgM v 32 from sgC_M v 32]
  refine gx_sto (i := 4) (d := 0) rfl (fun _ => rfl) rfl rfl (fun l1 hl1 ml1 => ?_)
  have l1_0 : en_ld l1 0 = some (gx_r 1) := ml1 0 _ h0 rfl
  have l1_1 : en_ld l1 1 = some (.inr (.inl v)) := ml1 1 _ h1 rfl
  have l1_3 : en_ld l1 3 = some (.inl 32) := ml1 3 _ h3 rfl
  refine gx_ld (i := 0) (d := 2) (v := gx_r 1) rfl (fun _ => rfl) l1_0 rfl rfl ?_
  refine gxo_get (a := 1) rfl g0 rfl rfl k0 rfl ?_
  refine ex_go (S := (24, l1, [.inl 1000, .inl len], t0, n, 0)) rfl (fun _ => rfl) rfl ?_
  by_cases hc2 : 1000 ≤ len
  · refine gx_2t (c := .ge) rfl (by first | decide | omega) (by first | decide | omega) hc2 rfl ?_
    refine gx_incC (i := 3) (a := 32) (b := 24) rfl (fun _ => rfl) l1_3 rfl rfl (fun l3 hl3 ml3 => ?_)
    have l3_0 : en_ld l3 0 = some (gx_r 1) := ml3 0 _ l1_0 rfl
    have l3_1 : en_ld l3 1 = some (.inr (.inl v)) := ml3 1 _ l1_1 rfl
    have l3_4 : en_ld l3 4 = some (.inl (sgM v 32)) := ml3 4 _ hl1 rfl
    refine ex_go (S := (3, l3, [], t0, n, 0)) rfl (fun _ => rfl) rfl ?_
    have hq : fd1 len (sgM v 32) = len := fd1_n (by first | decide | omega)
    have hqS : fS1 len S (sgM v 32) = S := fS1_n (by first | decide | omega)
    show en_ex _ _ _ _ _ (fun o => ∃ r, o = .inl r ∧ ∃ t', r = (none, t', n, 0) ∧ ai_HG ah_G t' ∧ ai_hv t' 1 0 = some (.inl (fdv_24 v (fd1 len (sgM v 32)))) ∧ tp t' 2 (fSv_24 v (fd1 len (sgM v 32)) (fS1 len S (sgM v 32))) (fdv_24 v (fd1 len (sgM v 32))) ∧ (∀ c i, ¬ ((c = 1 ∧ i = 0) ∨ c = 2) → ai_hv t' c i = ai_hv tb c i))
    rw [hq, hqS]
    exact fyC_24 _ _ _ t0 (by first | decide | omega) g0 k0 hS (fun c i h => e0 c i h) l3_0 l3_1 hl3
  · refine gx_2f (c := .ge) rfl (by first | decide | omega) (by first | decide | omega) hc2 rfl ?_
    refine gx_ld (i := 4) (d := 0) (v := .inl (sgM v 32)) rfl (fun _ => rfl) hl1 rfl rfl ?_
    refine ex_go (S := (31, l1, [.inl 10, .inl (sgM v 32)], t0, n, 0)) rfl (fun _ => rfl) rfl ?_
    by_cases hc4 : sgM v 32 = 10
    · refine gx_2t (c := .eq) rfl (by first | decide | omega) (by first | decide | omega) hc4 rfl ?_
      refine gx_ld (i := 0) (d := 2) (v := gx_r 1) rfl (fun _ => rfl) l1_0 rfl rfl ?_
      refine gxo_ref (a := 1) (c := 2) rfl g0 rfl rfl rfl rfl rfl ?_
      refine gx_ld (i := 0) (d := 2) (v := gx_r 1) rfl (fun _ => rfl) l1_0 rfl rfl ?_
      refine gxo_get (a := 1) rfl g0 rfl rfl k0 rfl ?_
      refine gx_ld (i := 4) (d := 0) (v := .inl (sgM v 32)) rfl (fun _ => rfl) hl1 rfl rfl ?_
      refine gx_i2bx rfl (by first | decide | omega) rfl ?_
      refine gx_apv (d := 2) rfl (fun _ => rfl) g0 rfl rfl (gx_bfit (by first | decide | omega)) (show len < 1000 from by omega) (gx_run1 (show len < 1000 from by omega)) (gx_brh (by first | decide | omega) (by first | decide | omega)) rfl (fun t105 g105 k105 e105 => ?_)
      have k6 : ai_hv t105 1 0 = some (.inl len) := (e105 1 0 (by first | decide | omega)).trans k0
      refine gx_ld (i := 0) (d := 2) (v := gx_r 1) rfl (fun _ => rfl) l1_0 rfl rfl ?_
      refine ex_go (S := (62, l1, [gx_r 1, gx_r 1], t105, n, 0)) rfl (fun _ => rfl) rfl ?_
      refine gxo_get (a := 1) rfl g105 rfl rfl k6 rfl ?_
      refine ex_go (S := (66, l1, [.inl 1, .inl len, gx_r 1], t105, n, 0)) rfl (fun _ => rfl) rfl ?_
      refine ex_iadd rfl (by first | decide | omega) rfl ?_
      refine gxo_put (a := 1) rfl g105 rfl rfl rfl (ai_in_h (by first | decide | omega) (by first | decide | omega) (by first | decide | omega)) rfl (fun t107 g107 k107 e107 => ?_)
      have k8 : ai_hv t107 2 len = some (.inl (sgM v 32)) := (e107 2 len (by first | decide | omega)).trans k105
      refine gx_incC (i := 3) (a := 32) (b := 24) rfl (fun _ => rfl) l1_3 rfl rfl (fun l9 hl9 ml9 => ?_)
      have l9_0 : en_ld l9 0 = some (gx_r 1) := ml9 0 _ l1_0 rfl
      have l9_1 : en_ld l9 1 = some (.inr (.inl v)) := ml9 1 _ l1_1 rfl
      have l9_4 : en_ld l9 4 = some (.inl (sgM v 32)) := ml9 4 _ hl1 rfl
      refine ex_go (S := (3, l9, [], t107, n, 0)) rfl (fun _ => rfl) rfl ?_
      have hq : fd1 len (sgM v 32) = len + 1 := fd1_y (by first | decide | omega) (by first | decide | omega)
      have hqS : fS1 len S (sgM v 32) = nx S len (sgM v 32) := fS1_y (by first | decide | omega) (by first | decide | omega)
      show en_ex _ _ _ _ _ (fun o => ∃ r, o = .inl r ∧ ∃ t', r = (none, t', n, 0) ∧ ai_HG ah_G t' ∧ ai_hv t' 1 0 = some (.inl (fdv_24 v (fd1 len (sgM v 32)))) ∧ tp t' 2 (fSv_24 v (fd1 len (sgM v 32)) (fS1 len S (sgM v 32))) (fdv_24 v (fd1 len (sgM v 32))) ∧ (∀ c i, ¬ ((c = 1 ∧ i = 0) ∨ c = 2) → ai_hv t' c i = ai_hv tb c i))
      rw [hq, hqS]
      exact fyC_24 _ _ _ t107 (by first | decide | omega) g107 k107 (tp_up hS (fun i hi => (e107 2 i (by first | decide | omega)).trans (e105 2 i (by first | decide | omega))) k8 (by first | decide | omega)) (fun c i h => (e107 c i (by first | decide | omega)).trans ((e105 c i (by first | decide | omega)).trans (e0 c i h))) l9_0 l9_1 hl9
    · refine gx_2f (c := .eq) rfl (by first | decide | omega) (by first | decide | omega) hc4 rfl ?_
      refine gx_ld (i := 4) (d := 0) (v := .inl (sgM v 32)) rfl (fun _ => rfl) hl1 rfl rfl ?_
      refine ex_go (S := (38, l1, [.inl 32, .inl (sgM v 32)], t0, n, 0)) rfl (fun _ => rfl) rfl ?_
      by_cases hc10 : sgM v 32 < 32
      · refine gx_2t (c := .lt) rfl (by first | decide | omega) (by first | decide | omega) hc10 rfl ?_
        refine gx_incC (i := 3) (a := 32) (b := 24) rfl (fun _ => rfl) l1_3 rfl rfl (fun l11 hl11 ml11 => ?_)
        have l11_0 : en_ld l11 0 = some (gx_r 1) := ml11 0 _ l1_0 rfl
        have l11_1 : en_ld l11 1 = some (.inr (.inl v)) := ml11 1 _ l1_1 rfl
        have l11_4 : en_ld l11 4 = some (.inl (sgM v 32)) := ml11 4 _ hl1 rfl
        refine ex_go (S := (3, l11, [], t0, n, 0)) rfl (fun _ => rfl) rfl ?_
        have hq : fd1 len (sgM v 32) = len := fd1_n (by first | decide | omega)
        have hqS : fS1 len S (sgM v 32) = S := fS1_n (by first | decide | omega)
        show en_ex _ _ _ _ _ (fun o => ∃ r, o = .inl r ∧ ∃ t', r = (none, t', n, 0) ∧ ai_HG ah_G t' ∧ ai_hv t' 1 0 = some (.inl (fdv_24 v (fd1 len (sgM v 32)))) ∧ tp t' 2 (fSv_24 v (fd1 len (sgM v 32)) (fS1 len S (sgM v 32))) (fdv_24 v (fd1 len (sgM v 32))) ∧ (∀ c i, ¬ ((c = 1 ∧ i = 0) ∨ c = 2) → ai_hv t' c i = ai_hv tb c i))
        rw [hq, hqS]
        exact fyC_24 _ _ _ t0 (by first | decide | omega) g0 k0 hS (fun c i h => e0 c i h) l11_0 l11_1 hl11
      · refine gx_2f (c := .lt) rfl (by first | decide | omega) (by first | decide | omega) hc10 rfl ?_
        refine gx_ld (i := 4) (d := 0) (v := .inl (sgM v 32)) rfl (fun _ => rfl) hl1 rfl rfl ?_
        refine ex_go (S := (45, l1, [.inl 126, .inl (sgM v 32)], t0, n, 0)) rfl (fun _ => rfl) rfl ?_
        by_cases hc12 : 126 < sgM v 32
        · refine gx_2t (c := .gt) rfl (by first | decide | omega) (by first | decide | omega) hc12 rfl ?_
          refine gx_incC (i := 3) (a := 32) (b := 24) rfl (fun _ => rfl) l1_3 rfl rfl (fun l13 hl13 ml13 => ?_)
          have l13_0 : en_ld l13 0 = some (gx_r 1) := ml13 0 _ l1_0 rfl
          have l13_1 : en_ld l13 1 = some (.inr (.inl v)) := ml13 1 _ l1_1 rfl
          have l13_4 : en_ld l13 4 = some (.inl (sgM v 32)) := ml13 4 _ hl1 rfl
          refine ex_go (S := (3, l13, [], t0, n, 0)) rfl (fun _ => rfl) rfl ?_
          have hq : fd1 len (sgM v 32) = len := fd1_n (by first | decide | omega)
          have hqS : fS1 len S (sgM v 32) = S := fS1_n (by first | decide | omega)
          show en_ex _ _ _ _ _ (fun o => ∃ r, o = .inl r ∧ ∃ t', r = (none, t', n, 0) ∧ ai_HG ah_G t' ∧ ai_hv t' 1 0 = some (.inl (fdv_24 v (fd1 len (sgM v 32)))) ∧ tp t' 2 (fSv_24 v (fd1 len (sgM v 32)) (fS1 len S (sgM v 32))) (fdv_24 v (fd1 len (sgM v 32))) ∧ (∀ c i, ¬ ((c = 1 ∧ i = 0) ∨ c = 2) → ai_hv t' c i = ai_hv tb c i))
          rw [hq, hqS]
          exact fyC_24 _ _ _ t0 (by first | decide | omega) g0 k0 hS (fun c i h => e0 c i h) l13_0 l13_1 hl13
        · refine gx_2f (c := .gt) rfl (by first | decide | omega) (by first | decide | omega) hc12 rfl ?_
          refine gx_ld (i := 0) (d := 2) (v := gx_r 1) rfl (fun _ => rfl) l1_0 rfl rfl ?_
          refine gxo_ref (a := 1) (c := 2) rfl g0 rfl rfl rfl rfl rfl ?_
          refine gx_ld (i := 0) (d := 2) (v := gx_r 1) rfl (fun _ => rfl) l1_0 rfl rfl ?_
          refine gxo_get (a := 1) rfl g0 rfl rfl k0 rfl ?_
          refine gx_ld (i := 4) (d := 0) (v := .inl (sgM v 32)) rfl (fun _ => rfl) hl1 rfl rfl ?_
          refine gx_i2bx rfl (by first | decide | omega) rfl ?_
          refine gx_apv (d := 2) rfl (fun _ => rfl) g0 rfl rfl (gx_bfit (by first | decide | omega)) (show len < 1000 from by omega) (gx_run1 (show len < 1000 from by omega)) (gx_brh (by first | decide | omega) (by first | decide | omega)) rfl (fun t114 g114 k114 e114 => ?_)
          have k15 : ai_hv t114 1 0 = some (.inl len) := (e114 1 0 (by first | decide | omega)).trans k0
          refine gx_ld (i := 0) (d := 2) (v := gx_r 1) rfl (fun _ => rfl) l1_0 rfl rfl ?_
          refine ex_go (S := (62, l1, [gx_r 1, gx_r 1], t114, n, 0)) rfl (fun _ => rfl) rfl ?_
          refine gxo_get (a := 1) rfl g114 rfl rfl k15 rfl ?_
          refine ex_go (S := (66, l1, [.inl 1, .inl len, gx_r 1], t114, n, 0)) rfl (fun _ => rfl) rfl ?_
          refine ex_iadd rfl (by first | decide | omega) rfl ?_
          refine gxo_put (a := 1) rfl g114 rfl rfl rfl (ai_in_h (by first | decide | omega) (by first | decide | omega) (by first | decide | omega)) rfl (fun t116 g116 k116 e116 => ?_)
          have k17 : ai_hv t116 2 len = some (.inl (sgM v 32)) := (e116 2 len (by first | decide | omega)).trans k114
          refine gx_incC (i := 3) (a := 32) (b := 24) rfl (fun _ => rfl) l1_3 rfl rfl (fun l18 hl18 ml18 => ?_)
          have l18_0 : en_ld l18 0 = some (gx_r 1) := ml18 0 _ l1_0 rfl
          have l18_1 : en_ld l18 1 = some (.inr (.inl v)) := ml18 1 _ l1_1 rfl
          have l18_4 : en_ld l18 4 = some (.inl (sgM v 32)) := ml18 4 _ hl1 rfl
          refine ex_go (S := (3, l18, [], t116, n, 0)) rfl (fun _ => rfl) rfl ?_
          have hq : fd1 len (sgM v 32) = len + 1 := fd1_y (by first | decide | omega) (by first | decide | omega)
          have hqS : fS1 len S (sgM v 32) = nx S len (sgM v 32) := fS1_y (by first | decide | omega) (by first | decide | omega)
          show en_ex _ _ _ _ _ (fun o => ∃ r, o = .inl r ∧ ∃ t', r = (none, t', n, 0) ∧ ai_HG ah_G t' ∧ ai_hv t' 1 0 = some (.inl (fdv_24 v (fd1 len (sgM v 32)))) ∧ tp t' 2 (fSv_24 v (fd1 len (sgM v 32)) (fS1 len S (sgM v 32))) (fdv_24 v (fd1 len (sgM v 32))) ∧ (∀ c i, ¬ ((c = 1 ∧ i = 0) ∨ c = 2) → ai_hv t' c i = ai_hv tb c i))
          rw [hq, hqS]
          exact fyC_24 _ _ _ t116 (by first | decide | omega) g116 k116 (tp_up hS (fun i hi => (e116 2 i (by first | decide | omega)).trans (e114 2 i (by first | decide | omega))) k17 (by first | decide | omega)) (fun c i h => (e116 c i (by first | decide | omega)).trans ((e114 c i (by first | decide | omega)).trans (e0 c i h))) l18_0 l18_1 hl18
theorem fyC_40 {fn : en_F} {n v : Nat} {tb : en_H} (len : Nat) (S : Nat → Nat) (cl : en_L) (t0 : en_H) (hl : len ≤ 1000) (g0 : ai_HG ah_G t0) (k0 : ai_hv t0 1 0 = some (.inl len)) (hS : tp t0 2 S len) (e0 : (∀ c i, ¬ ((c = 1 ∧ i = 0) ∨ c = 2) → ai_hv t0 c i = ai_hv tb c i)) (h0 : en_ld cl 0 = some (gx_r 1)) (h1 : en_ld cl 1 = some (.inr (.inl v))) (h3 : en_ld cl 3 = some (.inl 40)) : en_ex none fn (en_code 90) (fun _ => false) (3, cl, [], t0, n, 0) (fun o => ∃ r, o = .inl r ∧ ∃ t', r = (none, t', n, 0) ∧ ai_HG ah_G t' ∧ ai_hv t' 1 0 = some (.inl (fdv_40 v len)) ∧ tp t' 2 (fSv_40 v len S) (fdv_40 v len) ∧ (∀ c i, ¬ ((c = 1 ∧ i = 0) ∨ c = 2) → ai_hv t' c i = ai_hv tb c i)) := by
  have hg := sgM_le v 40
  refine gx_ld (i := 3) (d := 0) (v := .inl 40) rfl (fun _ => rfl) h3 rfl rfl ?_
  refine ex_go (S := (7, cl, [], t0, n, 0)) rfl (fun _ => rfl) rfl ?_
  refine gx_ld (i := 1) (d := 1) (v := .inr (.inl v)) rfl (fun _ => rfl) h1 rfl rfl ?_
  refine gx_ld (i := 3) (d := 0) (v := .inl 40) rfl (fun _ => rfl) h3 rfl rfl ?_
  refine ex_go (S := (10, cl, [.inr (.inl (en_lshr v 40))], t0, n, 0)) rfl (fun _ => rfl) rfl ?_
  refine ex_go (S := (13, cl, [.inr (.inl 255), .inr (.inl (en_lshr v 40))], t0, n, 0)) rfl (fun _ => rfl) rfl ?_
  refine ex_go (S := (14, cl, [.inr (.inl (en_land (en_lshr v 40) 255))], t0, n, 0)) rfl (fun _ => rfl) rfl ?_
  refine ex_go (S := (15, cl, [.inl ((lN (en_land (en_lshr v 40) 255)).toInt32.toBitVec.toNat)], t0, n, 0)) rfl (fun _ => rfl) rfl ?_
  rw [show (lN (en_land (en_lshr v 40) 255)).toInt32.toBitVec.toNat = sgM v 40 from sgC_M v 40]
  refine gx_sto (i := 4) (d := 0) rfl (fun _ => rfl) rfl rfl (fun l1 hl1 ml1 => ?_)
  have l1_0 : en_ld l1 0 = some (gx_r 1) := ml1 0 _ h0 rfl
  have l1_1 : en_ld l1 1 = some (.inr (.inl v)) := ml1 1 _ h1 rfl
  have l1_3 : en_ld l1 3 = some (.inl 40) := ml1 3 _ h3 rfl
  refine gx_ld (i := 0) (d := 2) (v := gx_r 1) rfl (fun _ => rfl) l1_0 rfl rfl ?_
  refine gxo_get (a := 1) rfl g0 rfl rfl k0 rfl ?_
  refine ex_go (S := (24, l1, [.inl 1000, .inl len], t0, n, 0)) rfl (fun _ => rfl) rfl ?_
  by_cases hc2 : 1000 ≤ len
  · refine gx_2t (c := .ge) rfl (by first | decide | omega) (by first | decide | omega) hc2 rfl ?_
    refine gx_incC (i := 3) (a := 40) (b := 32) rfl (fun _ => rfl) l1_3 rfl rfl (fun l3 hl3 ml3 => ?_)
    have l3_0 : en_ld l3 0 = some (gx_r 1) := ml3 0 _ l1_0 rfl
    have l3_1 : en_ld l3 1 = some (.inr (.inl v)) := ml3 1 _ l1_1 rfl
    have l3_4 : en_ld l3 4 = some (.inl (sgM v 40)) := ml3 4 _ hl1 rfl
    refine ex_go (S := (3, l3, [], t0, n, 0)) rfl (fun _ => rfl) rfl ?_
    have hq : fd1 len (sgM v 40) = len := fd1_n (by first | decide | omega)
    have hqS : fS1 len S (sgM v 40) = S := fS1_n (by first | decide | omega)
    show en_ex _ _ _ _ _ (fun o => ∃ r, o = .inl r ∧ ∃ t', r = (none, t', n, 0) ∧ ai_HG ah_G t' ∧ ai_hv t' 1 0 = some (.inl (fdv_32 v (fd1 len (sgM v 40)))) ∧ tp t' 2 (fSv_32 v (fd1 len (sgM v 40)) (fS1 len S (sgM v 40))) (fdv_32 v (fd1 len (sgM v 40))) ∧ (∀ c i, ¬ ((c = 1 ∧ i = 0) ∨ c = 2) → ai_hv t' c i = ai_hv tb c i))
    rw [hq, hqS]
    exact fyC_32 _ _ _ t0 (by first | decide | omega) g0 k0 hS (fun c i h => e0 c i h) l3_0 l3_1 hl3
  · refine gx_2f (c := .ge) rfl (by first | decide | omega) (by first | decide | omega) hc2 rfl ?_
    refine gx_ld (i := 4) (d := 0) (v := .inl (sgM v 40)) rfl (fun _ => rfl) hl1 rfl rfl ?_
    refine ex_go (S := (31, l1, [.inl 10, .inl (sgM v 40)], t0, n, 0)) rfl (fun _ => rfl) rfl ?_
    by_cases hc4 : sgM v 40 = 10
    · refine gx_2t (c := .eq) rfl (by first | decide | omega) (by first | decide | omega) hc4 rfl ?_
      refine gx_ld (i := 0) (d := 2) (v := gx_r 1) rfl (fun _ => rfl) l1_0 rfl rfl ?_
      refine gxo_ref (a := 1) (c := 2) rfl g0 rfl rfl rfl rfl rfl ?_
      refine gx_ld (i := 0) (d := 2) (v := gx_r 1) rfl (fun _ => rfl) l1_0 rfl rfl ?_
      refine gxo_get (a := 1) rfl g0 rfl rfl k0 rfl ?_
      refine gx_ld (i := 4) (d := 0) (v := .inl (sgM v 40)) rfl (fun _ => rfl) hl1 rfl rfl ?_
      refine gx_i2bx rfl (by first | decide | omega) rfl ?_
      refine gx_apv (d := 2) rfl (fun _ => rfl) g0 rfl rfl (gx_bfit (by first | decide | omega)) (show len < 1000 from by omega) (gx_run1 (show len < 1000 from by omega)) (gx_brh (by first | decide | omega) (by first | decide | omega)) rfl (fun t105 g105 k105 e105 => ?_)
      have k6 : ai_hv t105 1 0 = some (.inl len) := (e105 1 0 (by first | decide | omega)).trans k0
      refine gx_ld (i := 0) (d := 2) (v := gx_r 1) rfl (fun _ => rfl) l1_0 rfl rfl ?_
      refine ex_go (S := (62, l1, [gx_r 1, gx_r 1], t105, n, 0)) rfl (fun _ => rfl) rfl ?_
      refine gxo_get (a := 1) rfl g105 rfl rfl k6 rfl ?_
      refine ex_go (S := (66, l1, [.inl 1, .inl len, gx_r 1], t105, n, 0)) rfl (fun _ => rfl) rfl ?_
      refine ex_iadd rfl (by first | decide | omega) rfl ?_
      refine gxo_put (a := 1) rfl g105 rfl rfl rfl (ai_in_h (by first | decide | omega) (by first | decide | omega) (by first | decide | omega)) rfl (fun t107 g107 k107 e107 => ?_)
      have k8 : ai_hv t107 2 len = some (.inl (sgM v 40)) := (e107 2 len (by first | decide | omega)).trans k105
      refine gx_incC (i := 3) (a := 40) (b := 32) rfl (fun _ => rfl) l1_3 rfl rfl (fun l9 hl9 ml9 => ?_)
      have l9_0 : en_ld l9 0 = some (gx_r 1) := ml9 0 _ l1_0 rfl
      have l9_1 : en_ld l9 1 = some (.inr (.inl v)) := ml9 1 _ l1_1 rfl
      have l9_4 : en_ld l9 4 = some (.inl (sgM v 40)) := ml9 4 _ hl1 rfl
      refine ex_go (S := (3, l9, [], t107, n, 0)) rfl (fun _ => rfl) rfl ?_
      have hq : fd1 len (sgM v 40) = len + 1 := fd1_y (by first | decide | omega) (by first | decide | omega)
      have hqS : fS1 len S (sgM v 40) = nx S len (sgM v 40) := fS1_y (by first | decide | omega) (by first | decide | omega)
      show en_ex _ _ _ _ _ (fun o => ∃ r, o = .inl r ∧ ∃ t', r = (none, t', n, 0) ∧ ai_HG ah_G t' ∧ ai_hv t' 1 0 = some (.inl (fdv_32 v (fd1 len (sgM v 40)))) ∧ tp t' 2 (fSv_32 v (fd1 len (sgM v 40)) (fS1 len S (sgM v 40))) (fdv_32 v (fd1 len (sgM v 40))) ∧ (∀ c i, ¬ ((c = 1 ∧ i = 0) ∨ c = 2) → ai_hv t' c i = ai_hv tb c i))
      rw [hq, hqS]
      exact fyC_32 _ _ _ t107 (by first | decide | omega) g107 k107 (tp_up hS (fun i hi => (e107 2 i (by first | decide | omega)).trans (e105 2 i (by first | decide | omega))) k8 (by first | decide | omega)) (fun c i h => (e107 c i (by first | decide | omega)).trans ((e105 c i (by first | decide | omega)).trans (e0 c i h))) l9_0 l9_1 hl9
    · refine gx_2f (c := .eq) rfl (by first | decide | omega) (by first | decide | omega) hc4 rfl ?_
      refine gx_ld (i := 4) (d := 0) (v := .inl (sgM v 40)) rfl (fun _ => rfl) hl1 rfl rfl ?_
      refine ex_go (S := (38, l1, [.inl 32, .inl (sgM v 40)], t0, n, 0)) rfl (fun _ => rfl) rfl ?_
      by_cases hc10 : sgM v 40 < 32
      · refine gx_2t (c := .lt) rfl (by first | decide | omega) (by first | decide | omega) hc10 rfl ?_
        refine gx_incC (i := 3) (a := 40) (b := 32) rfl (fun _ => rfl) l1_3 rfl rfl (fun l11 hl11 ml11 => ?_)
        have l11_0 : en_ld l11 0 = some (gx_r 1) := ml11 0 _ l1_0 rfl
        have l11_1 : en_ld l11 1 = some (.inr (.inl v)) := ml11 1 _ l1_1 rfl
        have l11_4 : en_ld l11 4 = some (.inl (sgM v 40)) := ml11 4 _ hl1 rfl
        refine ex_go (S := (3, l11, [], t0, n, 0)) rfl (fun _ => rfl) rfl ?_
        have hq : fd1 len (sgM v 40) = len := fd1_n (by first | decide | omega)
        have hqS : fS1 len S (sgM v 40) = S := fS1_n (by first | decide | omega)
        show en_ex _ _ _ _ _ (fun o => ∃ r, o = .inl r ∧ ∃ t', r = (none, t', n, 0) ∧ ai_HG ah_G t' ∧ ai_hv t' 1 0 = some (.inl (fdv_32 v (fd1 len (sgM v 40)))) ∧ tp t' 2 (fSv_32 v (fd1 len (sgM v 40)) (fS1 len S (sgM v 40))) (fdv_32 v (fd1 len (sgM v 40))) ∧ (∀ c i, ¬ ((c = 1 ∧ i = 0) ∨ c = 2) → ai_hv t' c i = ai_hv tb c i))
        rw [hq, hqS]
        exact fyC_32 _ _ _ t0 (by first | decide | omega) g0 k0 hS (fun c i h => e0 c i h) l11_0 l11_1 hl11
      · refine gx_2f (c := .lt) rfl (by first | decide | omega) (by first | decide | omega) hc10 rfl ?_
        refine gx_ld (i := 4) (d := 0) (v := .inl (sgM v 40)) rfl (fun _ => rfl) hl1 rfl rfl ?_
        refine ex_go (S := (45, l1, [.inl 126, .inl (sgM v 40)], t0, n, 0)) rfl (fun _ => rfl) rfl ?_
        by_cases hc12 : 126 < sgM v 40
        · refine gx_2t (c := .gt) rfl (by first | decide | omega) (by first | decide | omega) hc12 rfl ?_
          refine gx_incC (i := 3) (a := 40) (b := 32) rfl (fun _ => rfl) l1_3 rfl rfl (fun l13 hl13 ml13 => ?_)
          have l13_0 : en_ld l13 0 = some (gx_r 1) := ml13 0 _ l1_0 rfl
          have l13_1 : en_ld l13 1 = some (.inr (.inl v)) := ml13 1 _ l1_1 rfl
          have l13_4 : en_ld l13 4 = some (.inl (sgM v 40)) := ml13 4 _ hl1 rfl
          refine ex_go (S := (3, l13, [], t0, n, 0)) rfl (fun _ => rfl) rfl ?_
          have hq : fd1 len (sgM v 40) = len := fd1_n (by first | decide | omega)
          have hqS : fS1 len S (sgM v 40) = S := fS1_n (by first | decide | omega)
          show en_ex _ _ _ _ _ (fun o => ∃ r, o = .inl r ∧ ∃ t', r = (none, t', n, 0) ∧ ai_HG ah_G t' ∧ ai_hv t' 1 0 = some (.inl (fdv_32 v (fd1 len (sgM v 40)))) ∧ tp t' 2 (fSv_32 v (fd1 len (sgM v 40)) (fS1 len S (sgM v 40))) (fdv_32 v (fd1 len (sgM v 40))) ∧ (∀ c i, ¬ ((c = 1 ∧ i = 0) ∨ c = 2) → ai_hv t' c i = ai_hv tb c i))
          rw [hq, hqS]
          exact fyC_32 _ _ _ t0 (by first | decide | omega) g0 k0 hS (fun c i h => e0 c i h) l13_0 l13_1 hl13
        · refine gx_2f (c := .gt) rfl (by first | decide | omega) (by first | decide | omega) hc12 rfl ?_
          refine gx_ld (i := 0) (d := 2) (v := gx_r 1) rfl (fun _ => rfl) l1_0 rfl rfl ?_
          refine gxo_ref (a := 1) (c := 2) rfl g0 rfl rfl rfl rfl rfl ?_
          refine gx_ld (i := 0) (d := 2) (v := gx_r 1) rfl (fun _ => rfl) l1_0 rfl rfl ?_
          refine gxo_get (a := 1) rfl g0 rfl rfl k0 rfl ?_
          refine gx_ld (i := 4) (d := 0) (v := .inl (sgM v 40)) rfl (fun _ => rfl) hl1 rfl rfl ?_
          refine gx_i2bx rfl (by first | decide | omega) rfl ?_
          refine gx_apv (d := 2) rfl (fun _ => rfl) g0 rfl rfl (gx_bfit (by first | decide | omega)) (show len < 1000 from by omega) (gx_run1 (show len < 1000 from by omega)) (gx_brh (by first | decide | omega) (by first | decide | omega)) rfl (fun t114 g114 k114 e114 => ?_)
          have k15 : ai_hv t114 1 0 = some (.inl len) := (e114 1 0 (by first | decide | omega)).trans k0
          refine gx_ld (i := 0) (d := 2) (v := gx_r 1) rfl (fun _ => rfl) l1_0 rfl rfl ?_
          refine ex_go (S := (62, l1, [gx_r 1, gx_r 1], t114, n, 0)) rfl (fun _ => rfl) rfl ?_
          refine gxo_get (a := 1) rfl g114 rfl rfl k15 rfl ?_
          refine ex_go (S := (66, l1, [.inl 1, .inl len, gx_r 1], t114, n, 0)) rfl (fun _ => rfl) rfl ?_
          refine ex_iadd rfl (by first | decide | omega) rfl ?_
          refine gxo_put (a := 1) rfl g114 rfl rfl rfl (ai_in_h (by first | decide | omega) (by first | decide | omega) (by first | decide | omega)) rfl (fun t116 g116 k116 e116 => ?_)
          have k17 : ai_hv t116 2 len = some (.inl (sgM v 40)) := (e116 2 len (by first | decide | omega)).trans k114
          refine gx_incC (i := 3) (a := 40) (b := 32) rfl (fun _ => rfl) l1_3 rfl rfl (fun l18 hl18 ml18 => ?_)
          have l18_0 : en_ld l18 0 = some (gx_r 1) := ml18 0 _ l1_0 rfl
          have l18_1 : en_ld l18 1 = some (.inr (.inl v)) := ml18 1 _ l1_1 rfl
          have l18_4 : en_ld l18 4 = some (.inl (sgM v 40)) := ml18 4 _ hl1 rfl
          refine ex_go (S := (3, l18, [], t116, n, 0)) rfl (fun _ => rfl) rfl ?_
          have hq : fd1 len (sgM v 40) = len + 1 := fd1_y (by first | decide | omega) (by first | decide | omega)
          have hqS : fS1 len S (sgM v 40) = nx S len (sgM v 40) := fS1_y (by first | decide | omega) (by first | decide | omega)
          show en_ex _ _ _ _ _ (fun o => ∃ r, o = .inl r ∧ ∃ t', r = (none, t', n, 0) ∧ ai_HG ah_G t' ∧ ai_hv t' 1 0 = some (.inl (fdv_32 v (fd1 len (sgM v 40)))) ∧ tp t' 2 (fSv_32 v (fd1 len (sgM v 40)) (fS1 len S (sgM v 40))) (fdv_32 v (fd1 len (sgM v 40))) ∧ (∀ c i, ¬ ((c = 1 ∧ i = 0) ∨ c = 2) → ai_hv t' c i = ai_hv tb c i))
          rw [hq, hqS]
          exact fyC_32 _ _ _ t116 (by first | decide | omega) g116 k116 (tp_up hS (fun i hi => (e116 2 i (by first | decide | omega)).trans (e114 2 i (by first | decide | omega))) k17 (by first | decide | omega)) (fun c i h => (e116 c i (by first | decide | omega)).trans ((e114 c i (by first | decide | omega)).trans (e0 c i h))) l18_0 l18_1 hl18
theorem fyC_48 {fn : en_F} {n v : Nat} {tb : en_H} (len : Nat) (S : Nat → Nat) (cl : en_L) (t0 : en_H) (hl : len ≤ 1000) (g0 : ai_HG ah_G t0) (k0 : ai_hv t0 1 0 = some (.inl len)) (hS : tp t0 2 S len) (e0 : (∀ c i, ¬ ((c = 1 ∧ i = 0) ∨ c = 2) → ai_hv t0 c i = ai_hv tb c i)) (h0 : en_ld cl 0 = some (gx_r 1)) (h1 : en_ld cl 1 = some (.inr (.inl v))) (h3 : en_ld cl 3 = some (.inl 48)) : en_ex none fn (en_code 90) (fun _ => false) (3, cl, [], t0, n, 0) (fun o => ∃ r, o = .inl r ∧ ∃ t', r = (none, t', n, 0) ∧ ai_HG ah_G t' ∧ ai_hv t' 1 0 = some (.inl (fdv_48 v len)) ∧ tp t' 2 (fSv_48 v len S) (fdv_48 v len) ∧ (∀ c i, ¬ ((c = 1 ∧ i = 0) ∨ c = 2) → ai_hv t' c i = ai_hv tb c i)) := by
  have hg := sgM_le v 48
  refine gx_ld (i := 3) (d := 0) (v := .inl 48) rfl (fun _ => rfl) h3 rfl rfl ?_
  refine ex_go (S := (7, cl, [], t0, n, 0)) rfl (fun _ => rfl) rfl ?_
  refine gx_ld (i := 1) (d := 1) (v := .inr (.inl v)) rfl (fun _ => rfl) h1 rfl rfl ?_
  refine gx_ld (i := 3) (d := 0) (v := .inl 48) rfl (fun _ => rfl) h3 rfl rfl ?_
  refine ex_go (S := (10, cl, [.inr (.inl (en_lshr v 48))], t0, n, 0)) rfl (fun _ => rfl) rfl ?_
  refine ex_go (S := (13, cl, [.inr (.inl 255), .inr (.inl (en_lshr v 48))], t0, n, 0)) rfl (fun _ => rfl) rfl ?_
  refine ex_go (S := (14, cl, [.inr (.inl (en_land (en_lshr v 48) 255))], t0, n, 0)) rfl (fun _ => rfl) rfl ?_
  refine ex_go (S := (15, cl, [.inl ((lN (en_land (en_lshr v 48) 255)).toInt32.toBitVec.toNat)], t0, n, 0)) rfl (fun _ => rfl) rfl ?_
  rw [show (lN (en_land (en_lshr v 48) 255)).toInt32.toBitVec.toNat = sgM v 48 from sgC_M v 48]
  refine gx_sto (i := 4) (d := 0) rfl (fun _ => rfl) rfl rfl (fun l1 hl1 ml1 => ?_)
  have l1_0 : en_ld l1 0 = some (gx_r 1) := ml1 0 _ h0 rfl
  have l1_1 : en_ld l1 1 = some (.inr (.inl v)) := ml1 1 _ h1 rfl
  have l1_3 : en_ld l1 3 = some (.inl 48) := ml1 3 _ h3 rfl
  refine gx_ld (i := 0) (d := 2) (v := gx_r 1) rfl (fun _ => rfl) l1_0 rfl rfl ?_
  refine gxo_get (a := 1) rfl g0 rfl rfl k0 rfl ?_
  refine ex_go (S := (24, l1, [.inl 1000, .inl len], t0, n, 0)) rfl (fun _ => rfl) rfl ?_
  by_cases hc2 : 1000 ≤ len
  · refine gx_2t (c := .ge) rfl (by first | decide | omega) (by first | decide | omega) hc2 rfl ?_
    refine gx_incC (i := 3) (a := 48) (b := 40) rfl (fun _ => rfl) l1_3 rfl rfl (fun l3 hl3 ml3 => ?_)
    have l3_0 : en_ld l3 0 = some (gx_r 1) := ml3 0 _ l1_0 rfl
    have l3_1 : en_ld l3 1 = some (.inr (.inl v)) := ml3 1 _ l1_1 rfl
    have l3_4 : en_ld l3 4 = some (.inl (sgM v 48)) := ml3 4 _ hl1 rfl
    refine ex_go (S := (3, l3, [], t0, n, 0)) rfl (fun _ => rfl) rfl ?_
    have hq : fd1 len (sgM v 48) = len := fd1_n (by first | decide | omega)
    have hqS : fS1 len S (sgM v 48) = S := fS1_n (by first | decide | omega)
    show en_ex _ _ _ _ _ (fun o => ∃ r, o = .inl r ∧ ∃ t', r = (none, t', n, 0) ∧ ai_HG ah_G t' ∧ ai_hv t' 1 0 = some (.inl (fdv_40 v (fd1 len (sgM v 48)))) ∧ tp t' 2 (fSv_40 v (fd1 len (sgM v 48)) (fS1 len S (sgM v 48))) (fdv_40 v (fd1 len (sgM v 48))) ∧ (∀ c i, ¬ ((c = 1 ∧ i = 0) ∨ c = 2) → ai_hv t' c i = ai_hv tb c i))
    rw [hq, hqS]
    exact fyC_40 _ _ _ t0 (by first | decide | omega) g0 k0 hS (fun c i h => e0 c i h) l3_0 l3_1 hl3
  · refine gx_2f (c := .ge) rfl (by first | decide | omega) (by first | decide | omega) hc2 rfl ?_
    refine gx_ld (i := 4) (d := 0) (v := .inl (sgM v 48)) rfl (fun _ => rfl) hl1 rfl rfl ?_
    refine ex_go (S := (31, l1, [.inl 10, .inl (sgM v 48)], t0, n, 0)) rfl (fun _ => rfl) rfl ?_
    by_cases hc4 : sgM v 48 = 10
    · refine gx_2t (c := .eq) rfl (by first | decide | omega) (by first | decide | omega) hc4 rfl ?_
      refine gx_ld (i := 0) (d := 2) (v := gx_r 1) rfl (fun _ => rfl) l1_0 rfl rfl ?_
      refine gxo_ref (a := 1) (c := 2) rfl g0 rfl rfl rfl rfl rfl ?_
      refine gx_ld (i := 0) (d := 2) (v := gx_r 1) rfl (fun _ => rfl) l1_0 rfl rfl ?_
      refine gxo_get (a := 1) rfl g0 rfl rfl k0 rfl ?_
      refine gx_ld (i := 4) (d := 0) (v := .inl (sgM v 48)) rfl (fun _ => rfl) hl1 rfl rfl ?_
      refine gx_i2bx rfl (by first | decide | omega) rfl ?_
      refine gx_apv (d := 2) rfl (fun _ => rfl) g0 rfl rfl (gx_bfit (by first | decide | omega)) (show len < 1000 from by omega) (gx_run1 (show len < 1000 from by omega)) (gx_brh (by first | decide | omega) (by first | decide | omega)) rfl (fun t105 g105 k105 e105 => ?_)
      have k6 : ai_hv t105 1 0 = some (.inl len) := (e105 1 0 (by first | decide | omega)).trans k0
      refine gx_ld (i := 0) (d := 2) (v := gx_r 1) rfl (fun _ => rfl) l1_0 rfl rfl ?_
      refine ex_go (S := (62, l1, [gx_r 1, gx_r 1], t105, n, 0)) rfl (fun _ => rfl) rfl ?_
      refine gxo_get (a := 1) rfl g105 rfl rfl k6 rfl ?_
      refine ex_go (S := (66, l1, [.inl 1, .inl len, gx_r 1], t105, n, 0)) rfl (fun _ => rfl) rfl ?_
      refine ex_iadd rfl (by first | decide | omega) rfl ?_
      refine gxo_put (a := 1) rfl g105 rfl rfl rfl (ai_in_h (by first | decide | omega) (by first | decide | omega) (by first | decide | omega)) rfl (fun t107 g107 k107 e107 => ?_)
      have k8 : ai_hv t107 2 len = some (.inl (sgM v 48)) := (e107 2 len (by first | decide | omega)).trans k105
      refine gx_incC (i := 3) (a := 48) (b := 40) rfl (fun _ => rfl) l1_3 rfl rfl (fun l9 hl9 ml9 => ?_)
      have l9_0 : en_ld l9 0 = some (gx_r 1) := ml9 0 _ l1_0 rfl
      have l9_1 : en_ld l9 1 = some (.inr (.inl v)) := ml9 1 _ l1_1 rfl
      have l9_4 : en_ld l9 4 = some (.inl (sgM v 48)) := ml9 4 _ hl1 rfl
      refine ex_go (S := (3, l9, [], t107, n, 0)) rfl (fun _ => rfl) rfl ?_
      have hq : fd1 len (sgM v 48) = len + 1 := fd1_y (by first | decide | omega) (by first | decide | omega)
      have hqS : fS1 len S (sgM v 48) = nx S len (sgM v 48) := fS1_y (by first | decide | omega) (by first | decide | omega)
      show en_ex _ _ _ _ _ (fun o => ∃ r, o = .inl r ∧ ∃ t', r = (none, t', n, 0) ∧ ai_HG ah_G t' ∧ ai_hv t' 1 0 = some (.inl (fdv_40 v (fd1 len (sgM v 48)))) ∧ tp t' 2 (fSv_40 v (fd1 len (sgM v 48)) (fS1 len S (sgM v 48))) (fdv_40 v (fd1 len (sgM v 48))) ∧ (∀ c i, ¬ ((c = 1 ∧ i = 0) ∨ c = 2) → ai_hv t' c i = ai_hv tb c i))
      rw [hq, hqS]
      exact fyC_40 _ _ _ t107 (by first | decide | omega) g107 k107 (tp_up hS (fun i hi => (e107 2 i (by first | decide | omega)).trans (e105 2 i (by first | decide | omega))) k8 (by first | decide | omega)) (fun c i h => (e107 c i (by first | decide | omega)).trans ((e105 c i (by first | decide | omega)).trans (e0 c i h))) l9_0 l9_1 hl9
    · refine gx_2f (c := .eq) rfl (by first | decide | omega) (by first | decide | omega) hc4 rfl ?_
      refine gx_ld (i := 4) (d := 0) (v := .inl (sgM v 48)) rfl (fun _ => rfl) hl1 rfl rfl ?_
      refine ex_go (S := (38, l1, [.inl 32, .inl (sgM v 48)], t0, n, 0)) rfl (fun _ => rfl) rfl ?_
      by_cases hc10 : sgM v 48 < 32
      · refine gx_2t (c := .lt) rfl (by first | decide | omega) (by first | decide | omega) hc10 rfl ?_
        refine gx_incC (i := 3) (a := 48) (b := 40) rfl (fun _ => rfl) l1_3 rfl rfl (fun l11 hl11 ml11 => ?_)
        have l11_0 : en_ld l11 0 = some (gx_r 1) := ml11 0 _ l1_0 rfl
        have l11_1 : en_ld l11 1 = some (.inr (.inl v)) := ml11 1 _ l1_1 rfl
        have l11_4 : en_ld l11 4 = some (.inl (sgM v 48)) := ml11 4 _ hl1 rfl
        refine ex_go (S := (3, l11, [], t0, n, 0)) rfl (fun _ => rfl) rfl ?_
        have hq : fd1 len (sgM v 48) = len := fd1_n (by first | decide | omega)
        have hqS : fS1 len S (sgM v 48) = S := fS1_n (by first | decide | omega)
        show en_ex _ _ _ _ _ (fun o => ∃ r, o = .inl r ∧ ∃ t', r = (none, t', n, 0) ∧ ai_HG ah_G t' ∧ ai_hv t' 1 0 = some (.inl (fdv_40 v (fd1 len (sgM v 48)))) ∧ tp t' 2 (fSv_40 v (fd1 len (sgM v 48)) (fS1 len S (sgM v 48))) (fdv_40 v (fd1 len (sgM v 48))) ∧ (∀ c i, ¬ ((c = 1 ∧ i = 0) ∨ c = 2) → ai_hv t' c i = ai_hv tb c i))
        rw [hq, hqS]
        exact fyC_40 _ _ _ t0 (by first | decide | omega) g0 k0 hS (fun c i h => e0 c i h) l11_0 l11_1 hl11
      · refine gx_2f (c := .lt) rfl (by first | decide | omega) (by first | decide | omega) hc10 rfl ?_
        refine gx_ld (i := 4) (d := 0) (v := .inl (sgM v 48)) rfl (fun _ => rfl) hl1 rfl rfl ?_
        refine ex_go (S := (45, l1, [.inl 126, .inl (sgM v 48)], t0, n, 0)) rfl (fun _ => rfl) rfl ?_
        by_cases hc12 : 126 < sgM v 48
        · refine gx_2t (c := .gt) rfl (by first | decide | omega) (by first | decide | omega) hc12 rfl ?_
          refine gx_incC (i := 3) (a := 48) (b := 40) rfl (fun _ => rfl) l1_3 rfl rfl (fun l13 hl13 ml13 => ?_)
          have l13_0 : en_ld l13 0 = some (gx_r 1) := ml13 0 _ l1_0 rfl
          have l13_1 : en_ld l13 1 = some (.inr (.inl v)) := ml13 1 _ l1_1 rfl
          have l13_4 : en_ld l13 4 = some (.inl (sgM v 48)) := ml13 4 _ hl1 rfl
          refine ex_go (S := (3, l13, [], t0, n, 0)) rfl (fun _ => rfl) rfl ?_
          have hq : fd1 len (sgM v 48) = len := fd1_n (by first | decide | omega)
          have hqS : fS1 len S (sgM v 48) = S := fS1_n (by first | decide | omega)
          show en_ex _ _ _ _ _ (fun o => ∃ r, o = .inl r ∧ ∃ t', r = (none, t', n, 0) ∧ ai_HG ah_G t' ∧ ai_hv t' 1 0 = some (.inl (fdv_40 v (fd1 len (sgM v 48)))) ∧ tp t' 2 (fSv_40 v (fd1 len (sgM v 48)) (fS1 len S (sgM v 48))) (fdv_40 v (fd1 len (sgM v 48))) ∧ (∀ c i, ¬ ((c = 1 ∧ i = 0) ∨ c = 2) → ai_hv t' c i = ai_hv tb c i))
          rw [hq, hqS]
          exact fyC_40 _ _ _ t0 (by first | decide | omega) g0 k0 hS (fun c i h => e0 c i h) l13_0 l13_1 hl13
        · refine gx_2f (c := .gt) rfl (by first | decide | omega) (by first | decide | omega) hc12 rfl ?_
          refine gx_ld (i := 0) (d := 2) (v := gx_r 1) rfl (fun _ => rfl) l1_0 rfl rfl ?_
          refine gxo_ref (a := 1) (c := 2) rfl g0 rfl rfl rfl rfl rfl ?_
          refine gx_ld (i := 0) (d := 2) (v := gx_r 1) rfl (fun _ => rfl) l1_0 rfl rfl ?_
          refine gxo_get (a := 1) rfl g0 rfl rfl k0 rfl ?_
          refine gx_ld (i := 4) (d := 0) (v := .inl (sgM v 48)) rfl (fun _ => rfl) hl1 rfl rfl ?_
          refine gx_i2bx rfl (by first | decide | omega) rfl ?_
          refine gx_apv (d := 2) rfl (fun _ => rfl) g0 rfl rfl (gx_bfit (by first | decide | omega)) (show len < 1000 from by omega) (gx_run1 (show len < 1000 from by omega)) (gx_brh (by first | decide | omega) (by first | decide | omega)) rfl (fun t114 g114 k114 e114 => ?_)
          have k15 : ai_hv t114 1 0 = some (.inl len) := (e114 1 0 (by first | decide | omega)).trans k0
          refine gx_ld (i := 0) (d := 2) (v := gx_r 1) rfl (fun _ => rfl) l1_0 rfl rfl ?_
          refine ex_go (S := (62, l1, [gx_r 1, gx_r 1], t114, n, 0)) rfl (fun _ => rfl) rfl ?_
          refine gxo_get (a := 1) rfl g114 rfl rfl k15 rfl ?_
          refine ex_go (S := (66, l1, [.inl 1, .inl len, gx_r 1], t114, n, 0)) rfl (fun _ => rfl) rfl ?_
          refine ex_iadd rfl (by first | decide | omega) rfl ?_
          refine gxo_put (a := 1) rfl g114 rfl rfl rfl (ai_in_h (by first | decide | omega) (by first | decide | omega) (by first | decide | omega)) rfl (fun t116 g116 k116 e116 => ?_)
          have k17 : ai_hv t116 2 len = some (.inl (sgM v 48)) := (e116 2 len (by first | decide | omega)).trans k114
          refine gx_incC (i := 3) (a := 48) (b := 40) rfl (fun _ => rfl) l1_3 rfl rfl (fun l18 hl18 ml18 => ?_)
          have l18_0 : en_ld l18 0 = some (gx_r 1) := ml18 0 _ l1_0 rfl
          have l18_1 : en_ld l18 1 = some (.inr (.inl v)) := ml18 1 _ l1_1 rfl
          have l18_4 : en_ld l18 4 = some (.inl (sgM v 48)) := ml18 4 _ hl1 rfl
          refine ex_go (S := (3, l18, [], t116, n, 0)) rfl (fun _ => rfl) rfl ?_
          have hq : fd1 len (sgM v 48) = len + 1 := fd1_y (by first | decide | omega) (by first | decide | omega)
          have hqS : fS1 len S (sgM v 48) = nx S len (sgM v 48) := fS1_y (by first | decide | omega) (by first | decide | omega)
          show en_ex _ _ _ _ _ (fun o => ∃ r, o = .inl r ∧ ∃ t', r = (none, t', n, 0) ∧ ai_HG ah_G t' ∧ ai_hv t' 1 0 = some (.inl (fdv_40 v (fd1 len (sgM v 48)))) ∧ tp t' 2 (fSv_40 v (fd1 len (sgM v 48)) (fS1 len S (sgM v 48))) (fdv_40 v (fd1 len (sgM v 48))) ∧ (∀ c i, ¬ ((c = 1 ∧ i = 0) ∨ c = 2) → ai_hv t' c i = ai_hv tb c i))
          rw [hq, hqS]
          exact fyC_40 _ _ _ t116 (by first | decide | omega) g116 k116 (tp_up hS (fun i hi => (e116 2 i (by first | decide | omega)).trans (e114 2 i (by first | decide | omega))) k17 (by first | decide | omega)) (fun c i h => (e116 c i (by first | decide | omega)).trans ((e114 c i (by first | decide | omega)).trans (e0 c i h))) l18_0 l18_1 hl18
theorem fyC_56 {fn : en_F} {n v : Nat} {tb : en_H} (len : Nat) (S : Nat → Nat) (cl : en_L) (t0 : en_H) (hl : len ≤ 1000) (g0 : ai_HG ah_G t0) (k0 : ai_hv t0 1 0 = some (.inl len)) (hS : tp t0 2 S len) (e0 : (∀ c i, ¬ ((c = 1 ∧ i = 0) ∨ c = 2) → ai_hv t0 c i = ai_hv tb c i)) (h0 : en_ld cl 0 = some (gx_r 1)) (h1 : en_ld cl 1 = some (.inr (.inl v))) (h3 : en_ld cl 3 = some (.inl 56)) : en_ex none fn (en_code 90) (fun _ => false) (3, cl, [], t0, n, 0) (fun o => ∃ r, o = .inl r ∧ ∃ t', r = (none, t', n, 0) ∧ ai_HG ah_G t' ∧ ai_hv t' 1 0 = some (.inl (fdv_56 v len)) ∧ tp t' 2 (fSv_56 v len S) (fdv_56 v len) ∧ (∀ c i, ¬ ((c = 1 ∧ i = 0) ∨ c = 2) → ai_hv t' c i = ai_hv tb c i)) := by
  have hg := sgM_le v 56
  refine gx_ld (i := 3) (d := 0) (v := .inl 56) rfl (fun _ => rfl) h3 rfl rfl ?_
  refine ex_go (S := (7, cl, [], t0, n, 0)) rfl (fun _ => rfl) rfl ?_
  refine gx_ld (i := 1) (d := 1) (v := .inr (.inl v)) rfl (fun _ => rfl) h1 rfl rfl ?_
  refine gx_ld (i := 3) (d := 0) (v := .inl 56) rfl (fun _ => rfl) h3 rfl rfl ?_
  refine ex_go (S := (10, cl, [.inr (.inl (en_lshr v 56))], t0, n, 0)) rfl (fun _ => rfl) rfl ?_
  refine ex_go (S := (13, cl, [.inr (.inl 255), .inr (.inl (en_lshr v 56))], t0, n, 0)) rfl (fun _ => rfl) rfl ?_
  refine ex_go (S := (14, cl, [.inr (.inl (en_land (en_lshr v 56) 255))], t0, n, 0)) rfl (fun _ => rfl) rfl ?_
  refine ex_go (S := (15, cl, [.inl ((lN (en_land (en_lshr v 56) 255)).toInt32.toBitVec.toNat)], t0, n, 0)) rfl (fun _ => rfl) rfl ?_
  rw [show (lN (en_land (en_lshr v 56) 255)).toInt32.toBitVec.toNat = sgM v 56 from sgC_M v 56]
  refine gx_sto (i := 4) (d := 0) rfl (fun _ => rfl) rfl rfl (fun l1 hl1 ml1 => ?_)
  have l1_0 : en_ld l1 0 = some (gx_r 1) := ml1 0 _ h0 rfl
  have l1_1 : en_ld l1 1 = some (.inr (.inl v)) := ml1 1 _ h1 rfl
  have l1_3 : en_ld l1 3 = some (.inl 56) := ml1 3 _ h3 rfl
  refine gx_ld (i := 0) (d := 2) (v := gx_r 1) rfl (fun _ => rfl) l1_0 rfl rfl ?_
  refine gxo_get (a := 1) rfl g0 rfl rfl k0 rfl ?_
  refine ex_go (S := (24, l1, [.inl 1000, .inl len], t0, n, 0)) rfl (fun _ => rfl) rfl ?_
  by_cases hc2 : 1000 ≤ len
  · refine gx_2t (c := .ge) rfl (by first | decide | omega) (by first | decide | omega) hc2 rfl ?_
    refine gx_incC (i := 3) (a := 56) (b := 48) rfl (fun _ => rfl) l1_3 rfl rfl (fun l3 hl3 ml3 => ?_)
    have l3_0 : en_ld l3 0 = some (gx_r 1) := ml3 0 _ l1_0 rfl
    have l3_1 : en_ld l3 1 = some (.inr (.inl v)) := ml3 1 _ l1_1 rfl
    have l3_4 : en_ld l3 4 = some (.inl (sgM v 56)) := ml3 4 _ hl1 rfl
    refine ex_go (S := (3, l3, [], t0, n, 0)) rfl (fun _ => rfl) rfl ?_
    have hq : fd1 len (sgM v 56) = len := fd1_n (by first | decide | omega)
    have hqS : fS1 len S (sgM v 56) = S := fS1_n (by first | decide | omega)
    show en_ex _ _ _ _ _ (fun o => ∃ r, o = .inl r ∧ ∃ t', r = (none, t', n, 0) ∧ ai_HG ah_G t' ∧ ai_hv t' 1 0 = some (.inl (fdv_48 v (fd1 len (sgM v 56)))) ∧ tp t' 2 (fSv_48 v (fd1 len (sgM v 56)) (fS1 len S (sgM v 56))) (fdv_48 v (fd1 len (sgM v 56))) ∧ (∀ c i, ¬ ((c = 1 ∧ i = 0) ∨ c = 2) → ai_hv t' c i = ai_hv tb c i))
    rw [hq, hqS]
    exact fyC_48 _ _ _ t0 (by first | decide | omega) g0 k0 hS (fun c i h => e0 c i h) l3_0 l3_1 hl3
  · refine gx_2f (c := .ge) rfl (by first | decide | omega) (by first | decide | omega) hc2 rfl ?_
    refine gx_ld (i := 4) (d := 0) (v := .inl (sgM v 56)) rfl (fun _ => rfl) hl1 rfl rfl ?_
    refine ex_go (S := (31, l1, [.inl 10, .inl (sgM v 56)], t0, n, 0)) rfl (fun _ => rfl) rfl ?_
    by_cases hc4 : sgM v 56 = 10
    · refine gx_2t (c := .eq) rfl (by first | decide | omega) (by first | decide | omega) hc4 rfl ?_
      refine gx_ld (i := 0) (d := 2) (v := gx_r 1) rfl (fun _ => rfl) l1_0 rfl rfl ?_
      refine gxo_ref (a := 1) (c := 2) rfl g0 rfl rfl rfl rfl rfl ?_
      refine gx_ld (i := 0) (d := 2) (v := gx_r 1) rfl (fun _ => rfl) l1_0 rfl rfl ?_
      refine gxo_get (a := 1) rfl g0 rfl rfl k0 rfl ?_
      refine gx_ld (i := 4) (d := 0) (v := .inl (sgM v 56)) rfl (fun _ => rfl) hl1 rfl rfl ?_
      refine gx_i2bx rfl (by first | decide | omega) rfl ?_
      refine gx_apv (d := 2) rfl (fun _ => rfl) g0 rfl rfl (gx_bfit (by first | decide | omega)) (show len < 1000 from by omega) (gx_run1 (show len < 1000 from by omega)) (gx_brh (by first | decide | omega) (by first | decide | omega)) rfl (fun t105 g105 k105 e105 => ?_)
      have k6 : ai_hv t105 1 0 = some (.inl len) := (e105 1 0 (by first | decide | omega)).trans k0
      refine gx_ld (i := 0) (d := 2) (v := gx_r 1) rfl (fun _ => rfl) l1_0 rfl rfl ?_
      refine ex_go (S := (62, l1, [gx_r 1, gx_r 1], t105, n, 0)) rfl (fun _ => rfl) rfl ?_
      refine gxo_get (a := 1) rfl g105 rfl rfl k6 rfl ?_
      refine ex_go (S := (66, l1, [.inl 1, .inl len, gx_r 1], t105, n, 0)) rfl (fun _ => rfl) rfl ?_
      refine ex_iadd rfl (by first | decide | omega) rfl ?_
      refine gxo_put (a := 1) rfl g105 rfl rfl rfl (ai_in_h (by first | decide | omega) (by first | decide | omega) (by first | decide | omega)) rfl (fun t107 g107 k107 e107 => ?_)
      have k8 : ai_hv t107 2 len = some (.inl (sgM v 56)) := (e107 2 len (by first | decide | omega)).trans k105
      refine gx_incC (i := 3) (a := 56) (b := 48) rfl (fun _ => rfl) l1_3 rfl rfl (fun l9 hl9 ml9 => ?_)
      have l9_0 : en_ld l9 0 = some (gx_r 1) := ml9 0 _ l1_0 rfl
      have l9_1 : en_ld l9 1 = some (.inr (.inl v)) := ml9 1 _ l1_1 rfl
      have l9_4 : en_ld l9 4 = some (.inl (sgM v 56)) := ml9 4 _ hl1 rfl
      refine ex_go (S := (3, l9, [], t107, n, 0)) rfl (fun _ => rfl) rfl ?_
      have hq : fd1 len (sgM v 56) = len + 1 := fd1_y (by first | decide | omega) (by first | decide | omega)
      have hqS : fS1 len S (sgM v 56) = nx S len (sgM v 56) := fS1_y (by first | decide | omega) (by first | decide | omega)
      show en_ex _ _ _ _ _ (fun o => ∃ r, o = .inl r ∧ ∃ t', r = (none, t', n, 0) ∧ ai_HG ah_G t' ∧ ai_hv t' 1 0 = some (.inl (fdv_48 v (fd1 len (sgM v 56)))) ∧ tp t' 2 (fSv_48 v (fd1 len (sgM v 56)) (fS1 len S (sgM v 56))) (fdv_48 v (fd1 len (sgM v 56))) ∧ (∀ c i, ¬ ((c = 1 ∧ i = 0) ∨ c = 2) → ai_hv t' c i = ai_hv tb c i))
      rw [hq, hqS]
      exact fyC_48 _ _ _ t107 (by first | decide | omega) g107 k107 (tp_up hS (fun i hi => (e107 2 i (by first | decide | omega)).trans (e105 2 i (by first | decide | omega))) k8 (by first | decide | omega)) (fun c i h => (e107 c i (by first | decide | omega)).trans ((e105 c i (by first | decide | omega)).trans (e0 c i h))) l9_0 l9_1 hl9
    · refine gx_2f (c := .eq) rfl (by first | decide | omega) (by first | decide | omega) hc4 rfl ?_
      refine gx_ld (i := 4) (d := 0) (v := .inl (sgM v 56)) rfl (fun _ => rfl) hl1 rfl rfl ?_
      refine ex_go (S := (38, l1, [.inl 32, .inl (sgM v 56)], t0, n, 0)) rfl (fun _ => rfl) rfl ?_
      by_cases hc10 : sgM v 56 < 32
      · refine gx_2t (c := .lt) rfl (by first | decide | omega) (by first | decide | omega) hc10 rfl ?_
        refine gx_incC (i := 3) (a := 56) (b := 48) rfl (fun _ => rfl) l1_3 rfl rfl (fun l11 hl11 ml11 => ?_)
        have l11_0 : en_ld l11 0 = some (gx_r 1) := ml11 0 _ l1_0 rfl
        have l11_1 : en_ld l11 1 = some (.inr (.inl v)) := ml11 1 _ l1_1 rfl
        have l11_4 : en_ld l11 4 = some (.inl (sgM v 56)) := ml11 4 _ hl1 rfl
        refine ex_go (S := (3, l11, [], t0, n, 0)) rfl (fun _ => rfl) rfl ?_
        have hq : fd1 len (sgM v 56) = len := fd1_n (by first | decide | omega)
        have hqS : fS1 len S (sgM v 56) = S := fS1_n (by first | decide | omega)
        show en_ex _ _ _ _ _ (fun o => ∃ r, o = .inl r ∧ ∃ t', r = (none, t', n, 0) ∧ ai_HG ah_G t' ∧ ai_hv t' 1 0 = some (.inl (fdv_48 v (fd1 len (sgM v 56)))) ∧ tp t' 2 (fSv_48 v (fd1 len (sgM v 56)) (fS1 len S (sgM v 56))) (fdv_48 v (fd1 len (sgM v 56))) ∧ (∀ c i, ¬ ((c = 1 ∧ i = 0) ∨ c = 2) → ai_hv t' c i = ai_hv tb c i))
        rw [hq, hqS]
        exact fyC_48 _ _ _ t0 (by first | decide | omega) g0 k0 hS (fun c i h => e0 c i h) l11_0 l11_1 hl11
      · refine gx_2f (c := .lt) rfl (by first | decide | omega) (by first | decide | omega) hc10 rfl ?_
        refine gx_ld (i := 4) (d := 0) (v := .inl (sgM v 56)) rfl (fun _ => rfl) hl1 rfl rfl ?_
        refine ex_go (S := (45, l1, [.inl 126, .inl (sgM v 56)], t0, n, 0)) rfl (fun _ => rfl) rfl ?_
        by_cases hc12 : 126 < sgM v 56
        · refine gx_2t (c := .gt) rfl (by first | decide | omega) (by first | decide | omega) hc12 rfl ?_
          refine gx_incC (i := 3) (a := 56) (b := 48) rfl (fun _ => rfl) l1_3 rfl rfl (fun l13 hl13 ml13 => ?_)
          have l13_0 : en_ld l13 0 = some (gx_r 1) := ml13 0 _ l1_0 rfl
          have l13_1 : en_ld l13 1 = some (.inr (.inl v)) := ml13 1 _ l1_1 rfl
          have l13_4 : en_ld l13 4 = some (.inl (sgM v 56)) := ml13 4 _ hl1 rfl
          refine ex_go (S := (3, l13, [], t0, n, 0)) rfl (fun _ => rfl) rfl ?_
          have hq : fd1 len (sgM v 56) = len := fd1_n (by first | decide | omega)
          have hqS : fS1 len S (sgM v 56) = S := fS1_n (by first | decide | omega)
          show en_ex _ _ _ _ _ (fun o => ∃ r, o = .inl r ∧ ∃ t', r = (none, t', n, 0) ∧ ai_HG ah_G t' ∧ ai_hv t' 1 0 = some (.inl (fdv_48 v (fd1 len (sgM v 56)))) ∧ tp t' 2 (fSv_48 v (fd1 len (sgM v 56)) (fS1 len S (sgM v 56))) (fdv_48 v (fd1 len (sgM v 56))) ∧ (∀ c i, ¬ ((c = 1 ∧ i = 0) ∨ c = 2) → ai_hv t' c i = ai_hv tb c i))
          rw [hq, hqS]
          exact fyC_48 _ _ _ t0 (by first | decide | omega) g0 k0 hS (fun c i h => e0 c i h) l13_0 l13_1 hl13
        · refine gx_2f (c := .gt) rfl (by first | decide | omega) (by first | decide | omega) hc12 rfl ?_
          refine gx_ld (i := 0) (d := 2) (v := gx_r 1) rfl (fun _ => rfl) l1_0 rfl rfl ?_
          refine gxo_ref (a := 1) (c := 2) rfl g0 rfl rfl rfl rfl rfl ?_
          refine gx_ld (i := 0) (d := 2) (v := gx_r 1) rfl (fun _ => rfl) l1_0 rfl rfl ?_
          refine gxo_get (a := 1) rfl g0 rfl rfl k0 rfl ?_
          refine gx_ld (i := 4) (d := 0) (v := .inl (sgM v 56)) rfl (fun _ => rfl) hl1 rfl rfl ?_
          refine gx_i2bx rfl (by first | decide | omega) rfl ?_
          refine gx_apv (d := 2) rfl (fun _ => rfl) g0 rfl rfl (gx_bfit (by first | decide | omega)) (show len < 1000 from by omega) (gx_run1 (show len < 1000 from by omega)) (gx_brh (by first | decide | omega) (by first | decide | omega)) rfl (fun t114 g114 k114 e114 => ?_)
          have k15 : ai_hv t114 1 0 = some (.inl len) := (e114 1 0 (by first | decide | omega)).trans k0
          refine gx_ld (i := 0) (d := 2) (v := gx_r 1) rfl (fun _ => rfl) l1_0 rfl rfl ?_
          refine ex_go (S := (62, l1, [gx_r 1, gx_r 1], t114, n, 0)) rfl (fun _ => rfl) rfl ?_
          refine gxo_get (a := 1) rfl g114 rfl rfl k15 rfl ?_
          refine ex_go (S := (66, l1, [.inl 1, .inl len, gx_r 1], t114, n, 0)) rfl (fun _ => rfl) rfl ?_
          refine ex_iadd rfl (by first | decide | omega) rfl ?_
          refine gxo_put (a := 1) rfl g114 rfl rfl rfl (ai_in_h (by first | decide | omega) (by first | decide | omega) (by first | decide | omega)) rfl (fun t116 g116 k116 e116 => ?_)
          have k17 : ai_hv t116 2 len = some (.inl (sgM v 56)) := (e116 2 len (by first | decide | omega)).trans k114
          refine gx_incC (i := 3) (a := 56) (b := 48) rfl (fun _ => rfl) l1_3 rfl rfl (fun l18 hl18 ml18 => ?_)
          have l18_0 : en_ld l18 0 = some (gx_r 1) := ml18 0 _ l1_0 rfl
          have l18_1 : en_ld l18 1 = some (.inr (.inl v)) := ml18 1 _ l1_1 rfl
          have l18_4 : en_ld l18 4 = some (.inl (sgM v 56)) := ml18 4 _ hl1 rfl
          refine ex_go (S := (3, l18, [], t116, n, 0)) rfl (fun _ => rfl) rfl ?_
          have hq : fd1 len (sgM v 56) = len + 1 := fd1_y (by first | decide | omega) (by first | decide | omega)
          have hqS : fS1 len S (sgM v 56) = nx S len (sgM v 56) := fS1_y (by first | decide | omega) (by first | decide | omega)
          show en_ex _ _ _ _ _ (fun o => ∃ r, o = .inl r ∧ ∃ t', r = (none, t', n, 0) ∧ ai_HG ah_G t' ∧ ai_hv t' 1 0 = some (.inl (fdv_48 v (fd1 len (sgM v 56)))) ∧ tp t' 2 (fSv_48 v (fd1 len (sgM v 56)) (fS1 len S (sgM v 56))) (fdv_48 v (fd1 len (sgM v 56))) ∧ (∀ c i, ¬ ((c = 1 ∧ i = 0) ∨ c = 2) → ai_hv t' c i = ai_hv tb c i))
          rw [hq, hqS]
          exact fyC_48 _ _ _ t116 (by first | decide | omega) g116 k116 (tp_up hS (fun i hi => (e116 2 i (by first | decide | omega)).trans (e114 2 i (by first | decide | omega))) k17 (by first | decide | omega)) (fun c i h => (e116 c i (by first | decide | omega)).trans ((e114 c i (by first | decide | omega)).trans (e0 c i h))) l18_0 l18_1 hl18
theorem pq_put (d n : Nat) {v len : Nat} {S : Nat → Nat} {tb : en_H} (g0 : ai_HG ah_G tb) (hl : len ≤ 1000) (k0 : ai_hv tb 1 0 = some (.inl len)) (hS : tp tb 2 S len) : ∃ r, en_u (d + 1) 90 [gx_r 1, .inr (.inl v)] tb n = some r ∧ ∃ t', r = (none, t', n, 0) ∧ ai_HG ah_G t' ∧ ai_hv t' 1 0 = some (.inl (fdv_56 v len)) ∧ tp t' 2 (fSv_56 v len S) (fdv_56 v len) ∧ (∀ c i, ¬ ((c = 1 ∧ i = 0) ∨ c = 2) → ai_hv t' c i = ai_hv tb c i) := by
  refine en_u_ex rfl ?_
  show en_ex _ _ _ _ (0, [(0, gx_r 1), (1, .inr (.inl v))], [], tb, n, 0) _
  refine ex_go (S := (2, [(0, gx_r 1), (1, .inr (.inl v))], [.inl 56], tb, n, 0)) rfl (fun _ => rfl) rfl ?_
  refine ex_go (S := (3, [(3, .inl 56), (0, gx_r 1), (1, .inr (.inl v))], [], tb, n, 0)) rfl (fun _ => rfl) rfl ?_
  exact fyC_56 len S _ tb hl g0 k0 hS (fun c i h => rfl) rfl rfl rfl
theorem pq_feedC (d n : Nat) {u v w len : Nat} {S : Nat → Nat} {t0 : en_H} (g0 : ai_HG ah_G t0) (hl : len ≤ 1000) (k0 : ai_hv t0 1 0 = some (.inl len)) (hS : tp t0 2 S len) : ∃ r, en_u (d + 2) 30 [gx_r 0, .inr (.inl u), .inr (.inl v), .inr (.inl w)] t0 n = some r ∧ ∃ t', r = (some (.inl (fdv_56 w (fdv_56 v (fdv_56 u len)))), t', n, 0) ∧ ai_HG ah_G t' ∧ ai_hv t' 1 0 = some (.inl (fdv_56 w (fdv_56 v (fdv_56 u len)))) ∧ tp t' 2 (fSv_56 w (fdv_56 v (fdv_56 u len)) (fSv_56 v (fdv_56 u len) (fSv_56 u len S))) (fdv_56 w (fdv_56 v (fdv_56 u len))) ∧ (∀ c i, ¬ ((c = 1 ∧ i = 0) ∨ c = 2) → ai_hv t' c i = ai_hv t0 c i) := by
  have l1 := fdv_le u hl
  have l2 := fdv_le v l1
  have l3 := fdv_le w l2
  refine en_u_ex (d := d + 1) rfl ?_
  show en_ex _ _ _ _ (0, [(0, gx_r 0), (1, .inr (.inl u)), (3, .inr (.inl v)), (5, .inr (.inl w))], [], t0, n, 0) _
  refine ex_go (S := (1, [(0, gx_r 0), (1, .inr (.inl u)), (3, .inr (.inl v)), (5, .inr (.inl w))], [gx_r 0], t0, n, 0)) rfl (fun _ => rfl) rfl ?_
  refine gxo_ref (a := 0) (c := 1) rfl g0 rfl rfl rfl rfl rfl ?_
  refine ex_go (S := (5, [(0, gx_r 0), (1, .inr (.inl u)), (3, .inr (.inl v)), (5, .inr (.inl w))], [.inr (.inl u), gx_r 1], t0, n, 0)) rfl (fun _ => rfl) rfl ?_
  obtain ⟨_, r101, t101, rfl, g101, k101, p101, e101⟩ := pq_put d n (v := u) g0 hl k0 hS
  refine gx_callo (a := 1) rfl rfl g0 rfl rfl rfl r101 rfl ?_
  show en_ex _ _ _ _ (8, [(0, gx_r 0), (1, .inr (.inl u)), (3, .inr (.inl v)), (5, .inr (.inl w))], [], t101, n, 0) _
  refine ex_go (S := (9, [(0, gx_r 0), (1, .inr (.inl u)), (3, .inr (.inl v)), (5, .inr (.inl w))], [gx_r 0], t101, n, 0)) rfl (fun _ => rfl) rfl ?_
  refine gxo_ref (a := 0) (c := 1) rfl g101 rfl rfl rfl rfl rfl ?_
  refine ex_go (S := (13, [(0, gx_r 0), (1, .inr (.inl u)), (3, .inr (.inl v)), (5, .inr (.inl w))], [.inr (.inl v), gx_r 1], t101, n, 0)) rfl (fun _ => rfl) rfl ?_
  obtain ⟨_, r102, t102, rfl, g102, k102, p102, e102⟩ := pq_put d n (v := v) g101 l1 k101 p101
  refine gx_callo (a := 1) rfl rfl g101 rfl rfl rfl r102 rfl ?_
  show en_ex _ _ _ _ (16, [(0, gx_r 0), (1, .inr (.inl u)), (3, .inr (.inl v)), (5, .inr (.inl w))], [], t102, n, 0) _
  refine ex_go (S := (17, [(0, gx_r 0), (1, .inr (.inl u)), (3, .inr (.inl v)), (5, .inr (.inl w))], [gx_r 0], t102, n, 0)) rfl (fun _ => rfl) rfl ?_
  refine gxo_ref (a := 0) (c := 1) rfl g102 rfl rfl rfl rfl rfl ?_
  refine ex_go (S := (22, [(0, gx_r 0), (1, .inr (.inl u)), (3, .inr (.inl v)), (5, .inr (.inl w))], [.inr (.inl w), gx_r 1], t102, n, 0)) rfl (fun _ => rfl) rfl ?_
  obtain ⟨_, r103, t103, rfl, g103, k103, p103, e103⟩ := pq_put d n (v := w) g102 l2 k102 p102
  refine gx_callo (a := 1) rfl rfl g102 rfl rfl rfl r103 rfl ?_
  show en_ex _ _ _ _ (25, [(0, gx_r 0), (1, .inr (.inl u)), (3, .inr (.inl v)), (5, .inr (.inl w))], [], t103, n, 0) _
  refine ex_go (S := (26, [(0, gx_r 0), (1, .inr (.inl u)), (3, .inr (.inl v)), (5, .inr (.inl w))], [gx_r 0], t103, n, 0)) rfl (fun _ => rfl) rfl ?_
  refine gxo_ref (a := 0) (c := 1) rfl g103 rfl rfl rfl rfl rfl ?_
  refine gxo_get (a := 1) rfl g103 rfl rfl k103 rfl ?_
  refine ex_ret (r := (some (.inl (fdv_56 w (fdv_56 v (fdv_56 u len)))), t103, n, 0)) rfl (fun _ => rfl) ?_
  exact ⟨_, rfl, t103, rfl, g103, k103, p103, (fun c i h => (e103 c i (by first | decide | omega)).trans ((e102 c i (by first | decide | omega)).trans (e101 c i (by first | decide | omega))))⟩
theorem fyM_e {fn : en_F} {n v : Nat} {tb : en_H} (len : Nat) (S : Nat → Nat) (cl : en_L) (t0 : en_H) (hl : len ≤ 1000) (g0 : ai_HG ah_G t0) (k0 : ai_hv t0 383 2 = some (.inl len)) (hS : tp t0 384 S len) (e0 : (∀ c i, ¬ ((c = 383 ∧ i = 2) ∨ c = 384) → ai_hv t0 c i = ai_hv tb c i)) (h0 : en_ld cl 0 = some (gx_r 383)) (h1 : en_ld cl 1 = some (.inr (.inl v))) (h3 : en_ld cl 3 = some (.inl 4294967288)) : en_ex none fn (en_code 91) (fun _ => false) (3, cl, [], t0, n, 0) (fun o => ∃ r, o = .inl r ∧ ∃ t', r = (none, t', n, 0) ∧ ai_HG ah_G t' ∧ ai_hv t' 383 2 = some (.inl (len)) ∧ tp t' 384 (S) (len) ∧ (∀ c i, ¬ ((c = 383 ∧ i = 2) ∨ c = 384) → ai_hv t' c i = ai_hv tb c i)) := by
  refine gx_ld (i := 3) (d := 0) (v := .inl 4294967288) rfl (fun _ => rfl) h3 rfl rfl ?_
  refine ex_go (S := (75, cl, [], t0, n, 0)) rfl (fun _ => rfl) rfl ?_
  refine ex_ret (r := (none, t0, n, 0)) rfl (fun _ => rfl) ?_
  exact ⟨_, rfl, t0, rfl, g0, k0, hS, (fun c i h => e0 c i h)⟩
theorem fyM_0 {fn : en_F} {n v : Nat} {tb : en_H} (len : Nat) (S : Nat → Nat) (cl : en_L) (t0 : en_H) (hl : len ≤ 1000) (g0 : ai_HG ah_G t0) (k0 : ai_hv t0 383 2 = some (.inl len)) (hS : tp t0 384 S len) (e0 : (∀ c i, ¬ ((c = 383 ∧ i = 2) ∨ c = 384) → ai_hv t0 c i = ai_hv tb c i)) (h0 : en_ld cl 0 = some (gx_r 383)) (h1 : en_ld cl 1 = some (.inr (.inl v))) (h3 : en_ld cl 3 = some (.inl 0)) : en_ex none fn (en_code 91) (fun _ => false) (3, cl, [], t0, n, 0) (fun o => ∃ r, o = .inl r ∧ ∃ t', r = (none, t', n, 0) ∧ ai_HG ah_G t' ∧ ai_hv t' 383 2 = some (.inl (fdv_0 v len)) ∧ tp t' 384 (fSv_0 v len S) (fdv_0 v len) ∧ (∀ c i, ¬ ((c = 383 ∧ i = 2) ∨ c = 384) → ai_hv t' c i = ai_hv tb c i)) := by
  have hg := sgM_le v 0
  refine gx_ld (i := 3) (d := 0) (v := .inl 0) rfl (fun _ => rfl) h3 rfl rfl ?_
  refine ex_go (S := (7, cl, [], t0, n, 0)) rfl (fun _ => rfl) rfl ?_
  refine gx_ld (i := 1) (d := 1) (v := .inr (.inl v)) rfl (fun _ => rfl) h1 rfl rfl ?_
  refine gx_ld (i := 3) (d := 0) (v := .inl 0) rfl (fun _ => rfl) h3 rfl rfl ?_
  refine ex_go (S := (10, cl, [.inr (.inl (en_lshr v 0))], t0, n, 0)) rfl (fun _ => rfl) rfl ?_
  refine ex_go (S := (11, cl, [.inl ((lN (en_lshr v 0)).toInt32.toBitVec.toNat)], t0, n, 0)) rfl (fun _ => rfl) rfl ?_
  refine ex_go (S := (14, cl, [.inl 255, .inl ((lN (en_lshr v 0)).toInt32.toBitVec.toNat)], t0, n, 0)) rfl (fun _ => rfl) rfl ?_
  refine ex_go (S := (15, cl, [.inl ((nI ((lN (en_lshr v 0)).toInt32.toBitVec.toNat) &&& nI 255).toBitVec.toNat)], t0, n, 0)) rfl (fun _ => rfl) rfl ?_
  rw [show (nI ((lN (en_lshr v 0)).toInt32.toBitVec.toNat) &&& nI 255).toBitVec.toNat = sgM v 0 from rfl]
  refine gx_sto (i := 4) (d := 0) rfl (fun _ => rfl) rfl rfl (fun l1 hl1 ml1 => ?_)
  have l1_0 : en_ld l1 0 = some (gx_r 383) := ml1 0 _ h0 rfl
  have l1_1 : en_ld l1 1 = some (.inr (.inl v)) := ml1 1 _ h1 rfl
  have l1_3 : en_ld l1 3 = some (.inl 0) := ml1 3 _ h3 rfl
  refine gx_ld (i := 4) (d := 0) (v := .inl (sgM v 0)) rfl (fun _ => rfl) hl1 rfl rfl ?_
  refine ex_go (S := (21, l1, [.inl 10, .inl (sgM v 0)], t0, n, 0)) rfl (fun _ => rfl) rfl ?_
  by_cases hc2 : sgM v 0 = 10
  · refine gx_2t (c := .eq) rfl (by first | decide | omega) (by first | decide | omega) hc2 rfl ?_
    refine gx_ld (i := 0) (d := 2) (v := gx_r 383) rfl (fun _ => rfl) l1_0 rfl rfl ?_
    refine gx_get rfl g0 rfl k0 rfl ?_
    refine ex_go (S := (45, l1, [.inl 1000, .inl len], t0, n, 0)) rfl (fun _ => rfl) rfl ?_
    by_cases hc3 : 1000 ≤ len
    · refine gx_2t (c := .ge) rfl (by first | decide | omega) (by first | decide | omega) hc3 rfl ?_
      refine gx_incC (i := 3) (a := 0) (b := 4294967288) rfl (fun _ => rfl) l1_3 rfl rfl (fun l4 hl4 ml4 => ?_)
      have l4_0 : en_ld l4 0 = some (gx_r 383) := ml4 0 _ l1_0 rfl
      have l4_1 : en_ld l4 1 = some (.inr (.inl v)) := ml4 1 _ l1_1 rfl
      have l4_4 : en_ld l4 4 = some (.inl (sgM v 0)) := ml4 4 _ hl1 rfl
      refine ex_go (S := (3, l4, [], t0, n, 0)) rfl (fun _ => rfl) rfl ?_
      have hq : fd1 len (sgM v 0) = len := fd1_n (by first | decide | omega)
      have hqS : fS1 len S (sgM v 0) = S := fS1_n (by first | decide | omega)
      show en_ex _ _ _ _ _ (fun o => ∃ r, o = .inl r ∧ ∃ t', r = (none, t', n, 0) ∧ ai_HG ah_G t' ∧ ai_hv t' 383 2 = some (.inl (fd1 len (sgM v 0))) ∧ tp t' 384 (fS1 len S (sgM v 0)) (fd1 len (sgM v 0)) ∧ (∀ c i, ¬ ((c = 383 ∧ i = 2) ∨ c = 384) → ai_hv t' c i = ai_hv tb c i))
      rw [hq, hqS]
      exact fyM_e _ _ _ t0 (by first | decide | omega) g0 k0 hS (fun c i h => e0 c i h) l4_0 l4_1 hl4
    · refine gx_2f (c := .ge) rfl (by first | decide | omega) (by first | decide | omega) hc3 rfl ?_
      refine gx_ld (i := 0) (d := 2) (v := gx_r 383) rfl (fun _ => rfl) l1_0 rfl rfl ?_
      refine gx_ref (c := 384) rfl g0 rfl rfl rfl rfl ?_
      refine gx_ld (i := 0) (d := 2) (v := gx_r 383) rfl (fun _ => rfl) l1_0 rfl rfl ?_
      refine gx_get rfl g0 rfl k0 rfl ?_
      refine gx_ld (i := 4) (d := 0) (v := .inl (sgM v 0)) rfl (fun _ => rfl) hl1 rfl rfl ?_
      refine gx_ap rfl (fun _ => rfl) g0 rfl rfl rfl (show len < 1000 from by omega) (gx_run1 (show len < 1000 from by omega)) (ai_in_h (by first | decide | omega) (by first | decide | omega) (by first | decide | omega)) rfl (fun t105 g105 k105 e105 => ?_)
      have k6 : ai_hv t105 383 2 = some (.inl len) := (e105 383 2 (by first | decide | omega)).trans k0
      refine gx_ld (i := 0) (d := 2) (v := gx_r 383) rfl (fun _ => rfl) l1_0 rfl rfl ?_
      refine ex_go (S := (61, l1, [gx_r 383, gx_r 383], t105, n, 0)) rfl (fun _ => rfl) rfl ?_
      refine gx_get rfl g105 rfl k6 rfl ?_
      refine ex_go (S := (65, l1, [.inl 1, .inl len, gx_r 383], t105, n, 0)) rfl (fun _ => rfl) rfl ?_
      refine ex_iadd rfl (by first | decide | omega) rfl ?_
      refine gx_put rfl g105 rfl rfl (ai_in_h (by first | decide | omega) (by first | decide | omega) (by first | decide | omega)) rfl (fun t107 g107 k107 e107 => ?_)
      have k8 : ai_hv t107 384 len = some (.inl (sgM v 0)) := (e107 384 len (by first | decide | omega)).trans k105
      refine gx_incC (i := 3) (a := 0) (b := 4294967288) rfl (fun _ => rfl) l1_3 rfl rfl (fun l9 hl9 ml9 => ?_)
      have l9_0 : en_ld l9 0 = some (gx_r 383) := ml9 0 _ l1_0 rfl
      have l9_1 : en_ld l9 1 = some (.inr (.inl v)) := ml9 1 _ l1_1 rfl
      have l9_4 : en_ld l9 4 = some (.inl (sgM v 0)) := ml9 4 _ hl1 rfl
      refine ex_go (S := (3, l9, [], t107, n, 0)) rfl (fun _ => rfl) rfl ?_
      have hq : fd1 len (sgM v 0) = len + 1 := fd1_y (by first | decide | omega) (by first | decide | omega)
      have hqS : fS1 len S (sgM v 0) = nx S len (sgM v 0) := fS1_y (by first | decide | omega) (by first | decide | omega)
      show en_ex _ _ _ _ _ (fun o => ∃ r, o = .inl r ∧ ∃ t', r = (none, t', n, 0) ∧ ai_HG ah_G t' ∧ ai_hv t' 383 2 = some (.inl (fd1 len (sgM v 0))) ∧ tp t' 384 (fS1 len S (sgM v 0)) (fd1 len (sgM v 0)) ∧ (∀ c i, ¬ ((c = 383 ∧ i = 2) ∨ c = 384) → ai_hv t' c i = ai_hv tb c i))
      rw [hq, hqS]
      exact fyM_e _ _ _ t107 (by first | decide | omega) g107 k107 (tp_up hS (fun i hi => (e107 384 i (by first | decide | omega)).trans (e105 384 i (by first | decide | omega))) k8 (by first | decide | omega)) (fun c i h => (e107 c i (by first | decide | omega)).trans ((e105 c i (by first | decide | omega)).trans (e0 c i h))) l9_0 l9_1 hl9
  · refine gx_2f (c := .eq) rfl (by first | decide | omega) (by first | decide | omega) hc2 rfl ?_
    refine gx_ld (i := 4) (d := 0) (v := .inl (sgM v 0)) rfl (fun _ => rfl) hl1 rfl rfl ?_
    refine ex_go (S := (28, l1, [.inl 32, .inl (sgM v 0)], t0, n, 0)) rfl (fun _ => rfl) rfl ?_
    by_cases hc10 : sgM v 0 < 32
    · refine gx_2t (c := .lt) rfl (by first | decide | omega) (by first | decide | omega) hc10 rfl ?_
      refine gx_incC (i := 3) (a := 0) (b := 4294967288) rfl (fun _ => rfl) l1_3 rfl rfl (fun l11 hl11 ml11 => ?_)
      have l11_0 : en_ld l11 0 = some (gx_r 383) := ml11 0 _ l1_0 rfl
      have l11_1 : en_ld l11 1 = some (.inr (.inl v)) := ml11 1 _ l1_1 rfl
      have l11_4 : en_ld l11 4 = some (.inl (sgM v 0)) := ml11 4 _ hl1 rfl
      refine ex_go (S := (3, l11, [], t0, n, 0)) rfl (fun _ => rfl) rfl ?_
      have hq : fd1 len (sgM v 0) = len := fd1_n (by first | decide | omega)
      have hqS : fS1 len S (sgM v 0) = S := fS1_n (by first | decide | omega)
      show en_ex _ _ _ _ _ (fun o => ∃ r, o = .inl r ∧ ∃ t', r = (none, t', n, 0) ∧ ai_HG ah_G t' ∧ ai_hv t' 383 2 = some (.inl (fd1 len (sgM v 0))) ∧ tp t' 384 (fS1 len S (sgM v 0)) (fd1 len (sgM v 0)) ∧ (∀ c i, ¬ ((c = 383 ∧ i = 2) ∨ c = 384) → ai_hv t' c i = ai_hv tb c i))
      rw [hq, hqS]
      exact fyM_e _ _ _ t0 (by first | decide | omega) g0 k0 hS (fun c i h => e0 c i h) l11_0 l11_1 hl11
    · refine gx_2f (c := .lt) rfl (by first | decide | omega) (by first | decide | omega) hc10 rfl ?_
      refine gx_ld (i := 4) (d := 0) (v := .inl (sgM v 0)) rfl (fun _ => rfl) hl1 rfl rfl ?_
      refine ex_go (S := (35, l1, [.inl 126, .inl (sgM v 0)], t0, n, 0)) rfl (fun _ => rfl) rfl ?_
      by_cases hc12 : 126 < sgM v 0
      · refine gx_2t (c := .gt) rfl (by first | decide | omega) (by first | decide | omega) hc12 rfl ?_
        refine gx_incC (i := 3) (a := 0) (b := 4294967288) rfl (fun _ => rfl) l1_3 rfl rfl (fun l13 hl13 ml13 => ?_)
        have l13_0 : en_ld l13 0 = some (gx_r 383) := ml13 0 _ l1_0 rfl
        have l13_1 : en_ld l13 1 = some (.inr (.inl v)) := ml13 1 _ l1_1 rfl
        have l13_4 : en_ld l13 4 = some (.inl (sgM v 0)) := ml13 4 _ hl1 rfl
        refine ex_go (S := (3, l13, [], t0, n, 0)) rfl (fun _ => rfl) rfl ?_
        have hq : fd1 len (sgM v 0) = len := fd1_n (by first | decide | omega)
        have hqS : fS1 len S (sgM v 0) = S := fS1_n (by first | decide | omega)
        show en_ex _ _ _ _ _ (fun o => ∃ r, o = .inl r ∧ ∃ t', r = (none, t', n, 0) ∧ ai_HG ah_G t' ∧ ai_hv t' 383 2 = some (.inl (fd1 len (sgM v 0))) ∧ tp t' 384 (fS1 len S (sgM v 0)) (fd1 len (sgM v 0)) ∧ (∀ c i, ¬ ((c = 383 ∧ i = 2) ∨ c = 384) → ai_hv t' c i = ai_hv tb c i))
        rw [hq, hqS]
        exact fyM_e _ _ _ t0 (by first | decide | omega) g0 k0 hS (fun c i h => e0 c i h) l13_0 l13_1 hl13
      · refine gx_2f (c := .gt) rfl (by first | decide | omega) (by first | decide | omega) hc12 rfl ?_
        refine gx_ld (i := 0) (d := 2) (v := gx_r 383) rfl (fun _ => rfl) l1_0 rfl rfl ?_
        refine gx_get rfl g0 rfl k0 rfl ?_
        refine ex_go (S := (45, l1, [.inl 1000, .inl len], t0, n, 0)) rfl (fun _ => rfl) rfl ?_
        by_cases hc14 : 1000 ≤ len
        · refine gx_2t (c := .ge) rfl (by first | decide | omega) (by first | decide | omega) hc14 rfl ?_
          refine gx_incC (i := 3) (a := 0) (b := 4294967288) rfl (fun _ => rfl) l1_3 rfl rfl (fun l15 hl15 ml15 => ?_)
          have l15_0 : en_ld l15 0 = some (gx_r 383) := ml15 0 _ l1_0 rfl
          have l15_1 : en_ld l15 1 = some (.inr (.inl v)) := ml15 1 _ l1_1 rfl
          have l15_4 : en_ld l15 4 = some (.inl (sgM v 0)) := ml15 4 _ hl1 rfl
          refine ex_go (S := (3, l15, [], t0, n, 0)) rfl (fun _ => rfl) rfl ?_
          have hq : fd1 len (sgM v 0) = len := fd1_n (by first | decide | omega)
          have hqS : fS1 len S (sgM v 0) = S := fS1_n (by first | decide | omega)
          show en_ex _ _ _ _ _ (fun o => ∃ r, o = .inl r ∧ ∃ t', r = (none, t', n, 0) ∧ ai_HG ah_G t' ∧ ai_hv t' 383 2 = some (.inl (fd1 len (sgM v 0))) ∧ tp t' 384 (fS1 len S (sgM v 0)) (fd1 len (sgM v 0)) ∧ (∀ c i, ¬ ((c = 383 ∧ i = 2) ∨ c = 384) → ai_hv t' c i = ai_hv tb c i))
          rw [hq, hqS]
          exact fyM_e _ _ _ t0 (by first | decide | omega) g0 k0 hS (fun c i h => e0 c i h) l15_0 l15_1 hl15
        · refine gx_2f (c := .ge) rfl (by first | decide | omega) (by first | decide | omega) hc14 rfl ?_
          refine gx_ld (i := 0) (d := 2) (v := gx_r 383) rfl (fun _ => rfl) l1_0 rfl rfl ?_
          refine gx_ref (c := 384) rfl g0 rfl rfl rfl rfl ?_
          refine gx_ld (i := 0) (d := 2) (v := gx_r 383) rfl (fun _ => rfl) l1_0 rfl rfl ?_
          refine gx_get rfl g0 rfl k0 rfl ?_
          refine gx_ld (i := 4) (d := 0) (v := .inl (sgM v 0)) rfl (fun _ => rfl) hl1 rfl rfl ?_
          refine gx_ap rfl (fun _ => rfl) g0 rfl rfl rfl (show len < 1000 from by omega) (gx_run1 (show len < 1000 from by omega)) (ai_in_h (by first | decide | omega) (by first | decide | omega) (by first | decide | omega)) rfl (fun t116 g116 k116 e116 => ?_)
          have k17 : ai_hv t116 383 2 = some (.inl len) := (e116 383 2 (by first | decide | omega)).trans k0
          refine gx_ld (i := 0) (d := 2) (v := gx_r 383) rfl (fun _ => rfl) l1_0 rfl rfl ?_
          refine ex_go (S := (61, l1, [gx_r 383, gx_r 383], t116, n, 0)) rfl (fun _ => rfl) rfl ?_
          refine gx_get rfl g116 rfl k17 rfl ?_
          refine ex_go (S := (65, l1, [.inl 1, .inl len, gx_r 383], t116, n, 0)) rfl (fun _ => rfl) rfl ?_
          refine ex_iadd rfl (by first | decide | omega) rfl ?_
          refine gx_put rfl g116 rfl rfl (ai_in_h (by first | decide | omega) (by first | decide | omega) (by first | decide | omega)) rfl (fun t118 g118 k118 e118 => ?_)
          have k19 : ai_hv t118 384 len = some (.inl (sgM v 0)) := (e118 384 len (by first | decide | omega)).trans k116
          refine gx_incC (i := 3) (a := 0) (b := 4294967288) rfl (fun _ => rfl) l1_3 rfl rfl (fun l20 hl20 ml20 => ?_)
          have l20_0 : en_ld l20 0 = some (gx_r 383) := ml20 0 _ l1_0 rfl
          have l20_1 : en_ld l20 1 = some (.inr (.inl v)) := ml20 1 _ l1_1 rfl
          have l20_4 : en_ld l20 4 = some (.inl (sgM v 0)) := ml20 4 _ hl1 rfl
          refine ex_go (S := (3, l20, [], t118, n, 0)) rfl (fun _ => rfl) rfl ?_
          have hq : fd1 len (sgM v 0) = len + 1 := fd1_y (by first | decide | omega) (by first | decide | omega)
          have hqS : fS1 len S (sgM v 0) = nx S len (sgM v 0) := fS1_y (by first | decide | omega) (by first | decide | omega)
          show en_ex _ _ _ _ _ (fun o => ∃ r, o = .inl r ∧ ∃ t', r = (none, t', n, 0) ∧ ai_HG ah_G t' ∧ ai_hv t' 383 2 = some (.inl (fd1 len (sgM v 0))) ∧ tp t' 384 (fS1 len S (sgM v 0)) (fd1 len (sgM v 0)) ∧ (∀ c i, ¬ ((c = 383 ∧ i = 2) ∨ c = 384) → ai_hv t' c i = ai_hv tb c i))
          rw [hq, hqS]
          exact fyM_e _ _ _ t118 (by first | decide | omega) g118 k118 (tp_up hS (fun i hi => (e118 384 i (by first | decide | omega)).trans (e116 384 i (by first | decide | omega))) k19 (by first | decide | omega)) (fun c i h => (e118 c i (by first | decide | omega)).trans ((e116 c i (by first | decide | omega)).trans (e0 c i h))) l20_0 l20_1 hl20
theorem fyM_8 {fn : en_F} {n v : Nat} {tb : en_H} (len : Nat) (S : Nat → Nat) (cl : en_L) (t0 : en_H) (hl : len ≤ 1000) (g0 : ai_HG ah_G t0) (k0 : ai_hv t0 383 2 = some (.inl len)) (hS : tp t0 384 S len) (e0 : (∀ c i, ¬ ((c = 383 ∧ i = 2) ∨ c = 384) → ai_hv t0 c i = ai_hv tb c i)) (h0 : en_ld cl 0 = some (gx_r 383)) (h1 : en_ld cl 1 = some (.inr (.inl v))) (h3 : en_ld cl 3 = some (.inl 8)) : en_ex none fn (en_code 91) (fun _ => false) (3, cl, [], t0, n, 0) (fun o => ∃ r, o = .inl r ∧ ∃ t', r = (none, t', n, 0) ∧ ai_HG ah_G t' ∧ ai_hv t' 383 2 = some (.inl (fdv_8 v len)) ∧ tp t' 384 (fSv_8 v len S) (fdv_8 v len) ∧ (∀ c i, ¬ ((c = 383 ∧ i = 2) ∨ c = 384) → ai_hv t' c i = ai_hv tb c i)) := by
  have hg := sgM_le v 8
  refine gx_ld (i := 3) (d := 0) (v := .inl 8) rfl (fun _ => rfl) h3 rfl rfl ?_
  refine ex_go (S := (7, cl, [], t0, n, 0)) rfl (fun _ => rfl) rfl ?_
  refine gx_ld (i := 1) (d := 1) (v := .inr (.inl v)) rfl (fun _ => rfl) h1 rfl rfl ?_
  refine gx_ld (i := 3) (d := 0) (v := .inl 8) rfl (fun _ => rfl) h3 rfl rfl ?_
  refine ex_go (S := (10, cl, [.inr (.inl (en_lshr v 8))], t0, n, 0)) rfl (fun _ => rfl) rfl ?_
  refine ex_go (S := (11, cl, [.inl ((lN (en_lshr v 8)).toInt32.toBitVec.toNat)], t0, n, 0)) rfl (fun _ => rfl) rfl ?_
  refine ex_go (S := (14, cl, [.inl 255, .inl ((lN (en_lshr v 8)).toInt32.toBitVec.toNat)], t0, n, 0)) rfl (fun _ => rfl) rfl ?_
  refine ex_go (S := (15, cl, [.inl ((nI ((lN (en_lshr v 8)).toInt32.toBitVec.toNat) &&& nI 255).toBitVec.toNat)], t0, n, 0)) rfl (fun _ => rfl) rfl ?_
  rw [show (nI ((lN (en_lshr v 8)).toInt32.toBitVec.toNat) &&& nI 255).toBitVec.toNat = sgM v 8 from rfl]
  refine gx_sto (i := 4) (d := 0) rfl (fun _ => rfl) rfl rfl (fun l1 hl1 ml1 => ?_)
  have l1_0 : en_ld l1 0 = some (gx_r 383) := ml1 0 _ h0 rfl
  have l1_1 : en_ld l1 1 = some (.inr (.inl v)) := ml1 1 _ h1 rfl
  have l1_3 : en_ld l1 3 = some (.inl 8) := ml1 3 _ h3 rfl
  refine gx_ld (i := 4) (d := 0) (v := .inl (sgM v 8)) rfl (fun _ => rfl) hl1 rfl rfl ?_
  refine ex_go (S := (21, l1, [.inl 10, .inl (sgM v 8)], t0, n, 0)) rfl (fun _ => rfl) rfl ?_
  by_cases hc2 : sgM v 8 = 10
  · refine gx_2t (c := .eq) rfl (by first | decide | omega) (by first | decide | omega) hc2 rfl ?_
    refine gx_ld (i := 0) (d := 2) (v := gx_r 383) rfl (fun _ => rfl) l1_0 rfl rfl ?_
    refine gx_get rfl g0 rfl k0 rfl ?_
    refine ex_go (S := (45, l1, [.inl 1000, .inl len], t0, n, 0)) rfl (fun _ => rfl) rfl ?_
    by_cases hc3 : 1000 ≤ len
    · refine gx_2t (c := .ge) rfl (by first | decide | omega) (by first | decide | omega) hc3 rfl ?_
      refine gx_incC (i := 3) (a := 8) (b := 0) rfl (fun _ => rfl) l1_3 rfl rfl (fun l4 hl4 ml4 => ?_)
      have l4_0 : en_ld l4 0 = some (gx_r 383) := ml4 0 _ l1_0 rfl
      have l4_1 : en_ld l4 1 = some (.inr (.inl v)) := ml4 1 _ l1_1 rfl
      have l4_4 : en_ld l4 4 = some (.inl (sgM v 8)) := ml4 4 _ hl1 rfl
      refine ex_go (S := (3, l4, [], t0, n, 0)) rfl (fun _ => rfl) rfl ?_
      have hq : fd1 len (sgM v 8) = len := fd1_n (by first | decide | omega)
      have hqS : fS1 len S (sgM v 8) = S := fS1_n (by first | decide | omega)
      show en_ex _ _ _ _ _ (fun o => ∃ r, o = .inl r ∧ ∃ t', r = (none, t', n, 0) ∧ ai_HG ah_G t' ∧ ai_hv t' 383 2 = some (.inl (fdv_0 v (fd1 len (sgM v 8)))) ∧ tp t' 384 (fSv_0 v (fd1 len (sgM v 8)) (fS1 len S (sgM v 8))) (fdv_0 v (fd1 len (sgM v 8))) ∧ (∀ c i, ¬ ((c = 383 ∧ i = 2) ∨ c = 384) → ai_hv t' c i = ai_hv tb c i))
      rw [hq, hqS]
      exact fyM_0 _ _ _ t0 (by first | decide | omega) g0 k0 hS (fun c i h => e0 c i h) l4_0 l4_1 hl4
    · refine gx_2f (c := .ge) rfl (by first | decide | omega) (by first | decide | omega) hc3 rfl ?_
      refine gx_ld (i := 0) (d := 2) (v := gx_r 383) rfl (fun _ => rfl) l1_0 rfl rfl ?_
      refine gx_ref (c := 384) rfl g0 rfl rfl rfl rfl ?_
      refine gx_ld (i := 0) (d := 2) (v := gx_r 383) rfl (fun _ => rfl) l1_0 rfl rfl ?_
      refine gx_get rfl g0 rfl k0 rfl ?_
      refine gx_ld (i := 4) (d := 0) (v := .inl (sgM v 8)) rfl (fun _ => rfl) hl1 rfl rfl ?_
      refine gx_ap rfl (fun _ => rfl) g0 rfl rfl rfl (show len < 1000 from by omega) (gx_run1 (show len < 1000 from by omega)) (ai_in_h (by first | decide | omega) (by first | decide | omega) (by first | decide | omega)) rfl (fun t105 g105 k105 e105 => ?_)
      have k6 : ai_hv t105 383 2 = some (.inl len) := (e105 383 2 (by first | decide | omega)).trans k0
      refine gx_ld (i := 0) (d := 2) (v := gx_r 383) rfl (fun _ => rfl) l1_0 rfl rfl ?_
      refine ex_go (S := (61, l1, [gx_r 383, gx_r 383], t105, n, 0)) rfl (fun _ => rfl) rfl ?_
      refine gx_get rfl g105 rfl k6 rfl ?_
      refine ex_go (S := (65, l1, [.inl 1, .inl len, gx_r 383], t105, n, 0)) rfl (fun _ => rfl) rfl ?_
      refine ex_iadd rfl (by first | decide | omega) rfl ?_
      refine gx_put rfl g105 rfl rfl (ai_in_h (by first | decide | omega) (by first | decide | omega) (by first | decide | omega)) rfl (fun t107 g107 k107 e107 => ?_)
      have k8 : ai_hv t107 384 len = some (.inl (sgM v 8)) := (e107 384 len (by first | decide | omega)).trans k105
      refine gx_incC (i := 3) (a := 8) (b := 0) rfl (fun _ => rfl) l1_3 rfl rfl (fun l9 hl9 ml9 => ?_)
      have l9_0 : en_ld l9 0 = some (gx_r 383) := ml9 0 _ l1_0 rfl
      have l9_1 : en_ld l9 1 = some (.inr (.inl v)) := ml9 1 _ l1_1 rfl
      have l9_4 : en_ld l9 4 = some (.inl (sgM v 8)) := ml9 4 _ hl1 rfl
      refine ex_go (S := (3, l9, [], t107, n, 0)) rfl (fun _ => rfl) rfl ?_
      have hq : fd1 len (sgM v 8) = len + 1 := fd1_y (by first | decide | omega) (by first | decide | omega)
      have hqS : fS1 len S (sgM v 8) = nx S len (sgM v 8) := fS1_y (by first | decide | omega) (by first | decide | omega)
      show en_ex _ _ _ _ _ (fun o => ∃ r, o = .inl r ∧ ∃ t', r = (none, t', n, 0) ∧ ai_HG ah_G t' ∧ ai_hv t' 383 2 = some (.inl (fdv_0 v (fd1 len (sgM v 8)))) ∧ tp t' 384 (fSv_0 v (fd1 len (sgM v 8)) (fS1 len S (sgM v 8))) (fdv_0 v (fd1 len (sgM v 8))) ∧ (∀ c i, ¬ ((c = 383 ∧ i = 2) ∨ c = 384) → ai_hv t' c i = ai_hv tb c i))
      rw [hq, hqS]
      exact fyM_0 _ _ _ t107 (by first | decide | omega) g107 k107 (tp_up hS (fun i hi => (e107 384 i (by first | decide | omega)).trans (e105 384 i (by first | decide | omega))) k8 (by first | decide | omega)) (fun c i h => (e107 c i (by first | decide | omega)).trans ((e105 c i (by first | decide | omega)).trans (e0 c i h))) l9_0 l9_1 hl9
  · refine gx_2f (c := .eq) rfl (by first | decide | omega) (by first | decide | omega) hc2 rfl ?_
    refine gx_ld (i := 4) (d := 0) (v := .inl (sgM v 8)) rfl (fun _ => rfl) hl1 rfl rfl ?_
    refine ex_go (S := (28, l1, [.inl 32, .inl (sgM v 8)], t0, n, 0)) rfl (fun _ => rfl) rfl ?_
    by_cases hc10 : sgM v 8 < 32
    · refine gx_2t (c := .lt) rfl (by first | decide | omega) (by first | decide | omega) hc10 rfl ?_
      refine gx_incC (i := 3) (a := 8) (b := 0) rfl (fun _ => rfl) l1_3 rfl rfl (fun l11 hl11 ml11 => ?_)
      have l11_0 : en_ld l11 0 = some (gx_r 383) := ml11 0 _ l1_0 rfl
      have l11_1 : en_ld l11 1 = some (.inr (.inl v)) := ml11 1 _ l1_1 rfl
      have l11_4 : en_ld l11 4 = some (.inl (sgM v 8)) := ml11 4 _ hl1 rfl
      refine ex_go (S := (3, l11, [], t0, n, 0)) rfl (fun _ => rfl) rfl ?_
      have hq : fd1 len (sgM v 8) = len := fd1_n (by first | decide | omega)
      have hqS : fS1 len S (sgM v 8) = S := fS1_n (by first | decide | omega)
      show en_ex _ _ _ _ _ (fun o => ∃ r, o = .inl r ∧ ∃ t', r = (none, t', n, 0) ∧ ai_HG ah_G t' ∧ ai_hv t' 383 2 = some (.inl (fdv_0 v (fd1 len (sgM v 8)))) ∧ tp t' 384 (fSv_0 v (fd1 len (sgM v 8)) (fS1 len S (sgM v 8))) (fdv_0 v (fd1 len (sgM v 8))) ∧ (∀ c i, ¬ ((c = 383 ∧ i = 2) ∨ c = 384) → ai_hv t' c i = ai_hv tb c i))
      rw [hq, hqS]
      exact fyM_0 _ _ _ t0 (by first | decide | omega) g0 k0 hS (fun c i h => e0 c i h) l11_0 l11_1 hl11
    · refine gx_2f (c := .lt) rfl (by first | decide | omega) (by first | decide | omega) hc10 rfl ?_
      refine gx_ld (i := 4) (d := 0) (v := .inl (sgM v 8)) rfl (fun _ => rfl) hl1 rfl rfl ?_
      refine ex_go (S := (35, l1, [.inl 126, .inl (sgM v 8)], t0, n, 0)) rfl (fun _ => rfl) rfl ?_
      by_cases hc12 : 126 < sgM v 8
      · refine gx_2t (c := .gt) rfl (by first | decide | omega) (by first | decide | omega) hc12 rfl ?_
        refine gx_incC (i := 3) (a := 8) (b := 0) rfl (fun _ => rfl) l1_3 rfl rfl (fun l13 hl13 ml13 => ?_)
        have l13_0 : en_ld l13 0 = some (gx_r 383) := ml13 0 _ l1_0 rfl
        have l13_1 : en_ld l13 1 = some (.inr (.inl v)) := ml13 1 _ l1_1 rfl
        have l13_4 : en_ld l13 4 = some (.inl (sgM v 8)) := ml13 4 _ hl1 rfl
        refine ex_go (S := (3, l13, [], t0, n, 0)) rfl (fun _ => rfl) rfl ?_
        have hq : fd1 len (sgM v 8) = len := fd1_n (by first | decide | omega)
        have hqS : fS1 len S (sgM v 8) = S := fS1_n (by first | decide | omega)
        show en_ex _ _ _ _ _ (fun o => ∃ r, o = .inl r ∧ ∃ t', r = (none, t', n, 0) ∧ ai_HG ah_G t' ∧ ai_hv t' 383 2 = some (.inl (fdv_0 v (fd1 len (sgM v 8)))) ∧ tp t' 384 (fSv_0 v (fd1 len (sgM v 8)) (fS1 len S (sgM v 8))) (fdv_0 v (fd1 len (sgM v 8))) ∧ (∀ c i, ¬ ((c = 383 ∧ i = 2) ∨ c = 384) → ai_hv t' c i = ai_hv tb c i))
        rw [hq, hqS]
        exact fyM_0 _ _ _ t0 (by first | decide | omega) g0 k0 hS (fun c i h => e0 c i h) l13_0 l13_1 hl13
      · refine gx_2f (c := .gt) rfl (by first | decide | omega) (by first | decide | omega) hc12 rfl ?_
        refine gx_ld (i := 0) (d := 2) (v := gx_r 383) rfl (fun _ => rfl) l1_0 rfl rfl ?_
        refine gx_get rfl g0 rfl k0 rfl ?_
        refine ex_go (S := (45, l1, [.inl 1000, .inl len], t0, n, 0)) rfl (fun _ => rfl) rfl ?_
        by_cases hc14 : 1000 ≤ len
        · refine gx_2t (c := .ge) rfl (by first | decide | omega) (by first | decide | omega) hc14 rfl ?_
          refine gx_incC (i := 3) (a := 8) (b := 0) rfl (fun _ => rfl) l1_3 rfl rfl (fun l15 hl15 ml15 => ?_)
          have l15_0 : en_ld l15 0 = some (gx_r 383) := ml15 0 _ l1_0 rfl
          have l15_1 : en_ld l15 1 = some (.inr (.inl v)) := ml15 1 _ l1_1 rfl
          have l15_4 : en_ld l15 4 = some (.inl (sgM v 8)) := ml15 4 _ hl1 rfl
          refine ex_go (S := (3, l15, [], t0, n, 0)) rfl (fun _ => rfl) rfl ?_
          have hq : fd1 len (sgM v 8) = len := fd1_n (by first | decide | omega)
          have hqS : fS1 len S (sgM v 8) = S := fS1_n (by first | decide | omega)
          show en_ex _ _ _ _ _ (fun o => ∃ r, o = .inl r ∧ ∃ t', r = (none, t', n, 0) ∧ ai_HG ah_G t' ∧ ai_hv t' 383 2 = some (.inl (fdv_0 v (fd1 len (sgM v 8)))) ∧ tp t' 384 (fSv_0 v (fd1 len (sgM v 8)) (fS1 len S (sgM v 8))) (fdv_0 v (fd1 len (sgM v 8))) ∧ (∀ c i, ¬ ((c = 383 ∧ i = 2) ∨ c = 384) → ai_hv t' c i = ai_hv tb c i))
          rw [hq, hqS]
          exact fyM_0 _ _ _ t0 (by first | decide | omega) g0 k0 hS (fun c i h => e0 c i h) l15_0 l15_1 hl15
        · refine gx_2f (c := .ge) rfl (by first | decide | omega) (by first | decide | omega) hc14 rfl ?_
          refine gx_ld (i := 0) (d := 2) (v := gx_r 383) rfl (fun _ => rfl) l1_0 rfl rfl ?_
          refine gx_ref (c := 384) rfl g0 rfl rfl rfl rfl ?_
          refine gx_ld (i := 0) (d := 2) (v := gx_r 383) rfl (fun _ => rfl) l1_0 rfl rfl ?_
          refine gx_get rfl g0 rfl k0 rfl ?_
          refine gx_ld (i := 4) (d := 0) (v := .inl (sgM v 8)) rfl (fun _ => rfl) hl1 rfl rfl ?_
          refine gx_ap rfl (fun _ => rfl) g0 rfl rfl rfl (show len < 1000 from by omega) (gx_run1 (show len < 1000 from by omega)) (ai_in_h (by first | decide | omega) (by first | decide | omega) (by first | decide | omega)) rfl (fun t116 g116 k116 e116 => ?_)
          have k17 : ai_hv t116 383 2 = some (.inl len) := (e116 383 2 (by first | decide | omega)).trans k0
          refine gx_ld (i := 0) (d := 2) (v := gx_r 383) rfl (fun _ => rfl) l1_0 rfl rfl ?_
          refine ex_go (S := (61, l1, [gx_r 383, gx_r 383], t116, n, 0)) rfl (fun _ => rfl) rfl ?_
          refine gx_get rfl g116 rfl k17 rfl ?_
          refine ex_go (S := (65, l1, [.inl 1, .inl len, gx_r 383], t116, n, 0)) rfl (fun _ => rfl) rfl ?_
          refine ex_iadd rfl (by first | decide | omega) rfl ?_
          refine gx_put rfl g116 rfl rfl (ai_in_h (by first | decide | omega) (by first | decide | omega) (by first | decide | omega)) rfl (fun t118 g118 k118 e118 => ?_)
          have k19 : ai_hv t118 384 len = some (.inl (sgM v 8)) := (e118 384 len (by first | decide | omega)).trans k116
          refine gx_incC (i := 3) (a := 8) (b := 0) rfl (fun _ => rfl) l1_3 rfl rfl (fun l20 hl20 ml20 => ?_)
          have l20_0 : en_ld l20 0 = some (gx_r 383) := ml20 0 _ l1_0 rfl
          have l20_1 : en_ld l20 1 = some (.inr (.inl v)) := ml20 1 _ l1_1 rfl
          have l20_4 : en_ld l20 4 = some (.inl (sgM v 8)) := ml20 4 _ hl1 rfl
          refine ex_go (S := (3, l20, [], t118, n, 0)) rfl (fun _ => rfl) rfl ?_
          have hq : fd1 len (sgM v 8) = len + 1 := fd1_y (by first | decide | omega) (by first | decide | omega)
          have hqS : fS1 len S (sgM v 8) = nx S len (sgM v 8) := fS1_y (by first | decide | omega) (by first | decide | omega)
          show en_ex _ _ _ _ _ (fun o => ∃ r, o = .inl r ∧ ∃ t', r = (none, t', n, 0) ∧ ai_HG ah_G t' ∧ ai_hv t' 383 2 = some (.inl (fdv_0 v (fd1 len (sgM v 8)))) ∧ tp t' 384 (fSv_0 v (fd1 len (sgM v 8)) (fS1 len S (sgM v 8))) (fdv_0 v (fd1 len (sgM v 8))) ∧ (∀ c i, ¬ ((c = 383 ∧ i = 2) ∨ c = 384) → ai_hv t' c i = ai_hv tb c i))
          rw [hq, hqS]
          exact fyM_0 _ _ _ t118 (by first | decide | omega) g118 k118 (tp_up hS (fun i hi => (e118 384 i (by first | decide | omega)).trans (e116 384 i (by first | decide | omega))) k19 (by first | decide | omega)) (fun c i h => (e118 c i (by first | decide | omega)).trans ((e116 c i (by first | decide | omega)).trans (e0 c i h))) l20_0 l20_1 hl20
theorem fyM_16 {fn : en_F} {n v : Nat} {tb : en_H} (len : Nat) (S : Nat → Nat) (cl : en_L) (t0 : en_H) (hl : len ≤ 1000) (g0 : ai_HG ah_G t0) (k0 : ai_hv t0 383 2 = some (.inl len)) (hS : tp t0 384 S len) (e0 : (∀ c i, ¬ ((c = 383 ∧ i = 2) ∨ c = 384) → ai_hv t0 c i = ai_hv tb c i)) (h0 : en_ld cl 0 = some (gx_r 383)) (h1 : en_ld cl 1 = some (.inr (.inl v))) (h3 : en_ld cl 3 = some (.inl 16)) : en_ex none fn (en_code 91) (fun _ => false) (3, cl, [], t0, n, 0) (fun o => ∃ r, o = .inl r ∧ ∃ t', r = (none, t', n, 0) ∧ ai_HG ah_G t' ∧ ai_hv t' 383 2 = some (.inl (fdv_16 v len)) ∧ tp t' 384 (fSv_16 v len S) (fdv_16 v len) ∧ (∀ c i, ¬ ((c = 383 ∧ i = 2) ∨ c = 384) → ai_hv t' c i = ai_hv tb c i)) := by
  have hg := sgM_le v 16
  refine gx_ld (i := 3) (d := 0) (v := .inl 16) rfl (fun _ => rfl) h3 rfl rfl ?_
  refine ex_go (S := (7, cl, [], t0, n, 0)) rfl (fun _ => rfl) rfl ?_
  refine gx_ld (i := 1) (d := 1) (v := .inr (.inl v)) rfl (fun _ => rfl) h1 rfl rfl ?_
  refine gx_ld (i := 3) (d := 0) (v := .inl 16) rfl (fun _ => rfl) h3 rfl rfl ?_
  refine ex_go (S := (10, cl, [.inr (.inl (en_lshr v 16))], t0, n, 0)) rfl (fun _ => rfl) rfl ?_
  refine ex_go (S := (11, cl, [.inl ((lN (en_lshr v 16)).toInt32.toBitVec.toNat)], t0, n, 0)) rfl (fun _ => rfl) rfl ?_
  refine ex_go (S := (14, cl, [.inl 255, .inl ((lN (en_lshr v 16)).toInt32.toBitVec.toNat)], t0, n, 0)) rfl (fun _ => rfl) rfl ?_
  refine ex_go (S := (15, cl, [.inl ((nI ((lN (en_lshr v 16)).toInt32.toBitVec.toNat) &&& nI 255).toBitVec.toNat)], t0, n, 0)) rfl (fun _ => rfl) rfl ?_
  rw [show (nI ((lN (en_lshr v 16)).toInt32.toBitVec.toNat) &&& nI 255).toBitVec.toNat = sgM v 16 from rfl]
  refine gx_sto (i := 4) (d := 0) rfl (fun _ => rfl) rfl rfl (fun l1 hl1 ml1 => ?_)
  have l1_0 : en_ld l1 0 = some (gx_r 383) := ml1 0 _ h0 rfl
  have l1_1 : en_ld l1 1 = some (.inr (.inl v)) := ml1 1 _ h1 rfl
  have l1_3 : en_ld l1 3 = some (.inl 16) := ml1 3 _ h3 rfl
  refine gx_ld (i := 4) (d := 0) (v := .inl (sgM v 16)) rfl (fun _ => rfl) hl1 rfl rfl ?_
  refine ex_go (S := (21, l1, [.inl 10, .inl (sgM v 16)], t0, n, 0)) rfl (fun _ => rfl) rfl ?_
  by_cases hc2 : sgM v 16 = 10
  · refine gx_2t (c := .eq) rfl (by first | decide | omega) (by first | decide | omega) hc2 rfl ?_
    refine gx_ld (i := 0) (d := 2) (v := gx_r 383) rfl (fun _ => rfl) l1_0 rfl rfl ?_
    refine gx_get rfl g0 rfl k0 rfl ?_
    refine ex_go (S := (45, l1, [.inl 1000, .inl len], t0, n, 0)) rfl (fun _ => rfl) rfl ?_
    by_cases hc3 : 1000 ≤ len
    · refine gx_2t (c := .ge) rfl (by first | decide | omega) (by first | decide | omega) hc3 rfl ?_
      refine gx_incC (i := 3) (a := 16) (b := 8) rfl (fun _ => rfl) l1_3 rfl rfl (fun l4 hl4 ml4 => ?_)
      have l4_0 : en_ld l4 0 = some (gx_r 383) := ml4 0 _ l1_0 rfl
      have l4_1 : en_ld l4 1 = some (.inr (.inl v)) := ml4 1 _ l1_1 rfl
      have l4_4 : en_ld l4 4 = some (.inl (sgM v 16)) := ml4 4 _ hl1 rfl
      refine ex_go (S := (3, l4, [], t0, n, 0)) rfl (fun _ => rfl) rfl ?_
      have hq : fd1 len (sgM v 16) = len := fd1_n (by first | decide | omega)
      have hqS : fS1 len S (sgM v 16) = S := fS1_n (by first | decide | omega)
      show en_ex _ _ _ _ _ (fun o => ∃ r, o = .inl r ∧ ∃ t', r = (none, t', n, 0) ∧ ai_HG ah_G t' ∧ ai_hv t' 383 2 = some (.inl (fdv_8 v (fd1 len (sgM v 16)))) ∧ tp t' 384 (fSv_8 v (fd1 len (sgM v 16)) (fS1 len S (sgM v 16))) (fdv_8 v (fd1 len (sgM v 16))) ∧ (∀ c i, ¬ ((c = 383 ∧ i = 2) ∨ c = 384) → ai_hv t' c i = ai_hv tb c i))
      rw [hq, hqS]
      exact fyM_8 _ _ _ t0 (by first | decide | omega) g0 k0 hS (fun c i h => e0 c i h) l4_0 l4_1 hl4
    · refine gx_2f (c := .ge) rfl (by first | decide | omega) (by first | decide | omega) hc3 rfl ?_
      refine gx_ld (i := 0) (d := 2) (v := gx_r 383) rfl (fun _ => rfl) l1_0 rfl rfl ?_
      refine gx_ref (c := 384) rfl g0 rfl rfl rfl rfl ?_
      refine gx_ld (i := 0) (d := 2) (v := gx_r 383) rfl (fun _ => rfl) l1_0 rfl rfl ?_
      refine gx_get rfl g0 rfl k0 rfl ?_
      refine gx_ld (i := 4) (d := 0) (v := .inl (sgM v 16)) rfl (fun _ => rfl) hl1 rfl rfl ?_
      refine gx_ap rfl (fun _ => rfl) g0 rfl rfl rfl (show len < 1000 from by omega) (gx_run1 (show len < 1000 from by omega)) (ai_in_h (by first | decide | omega) (by first | decide | omega) (by first | decide | omega)) rfl (fun t105 g105 k105 e105 => ?_)
      have k6 : ai_hv t105 383 2 = some (.inl len) := (e105 383 2 (by first | decide | omega)).trans k0
      refine gx_ld (i := 0) (d := 2) (v := gx_r 383) rfl (fun _ => rfl) l1_0 rfl rfl ?_
      refine ex_go (S := (61, l1, [gx_r 383, gx_r 383], t105, n, 0)) rfl (fun _ => rfl) rfl ?_
      refine gx_get rfl g105 rfl k6 rfl ?_
      refine ex_go (S := (65, l1, [.inl 1, .inl len, gx_r 383], t105, n, 0)) rfl (fun _ => rfl) rfl ?_
      refine ex_iadd rfl (by first | decide | omega) rfl ?_
      refine gx_put rfl g105 rfl rfl (ai_in_h (by first | decide | omega) (by first | decide | omega) (by first | decide | omega)) rfl (fun t107 g107 k107 e107 => ?_)
      have k8 : ai_hv t107 384 len = some (.inl (sgM v 16)) := (e107 384 len (by first | decide | omega)).trans k105
      refine gx_incC (i := 3) (a := 16) (b := 8) rfl (fun _ => rfl) l1_3 rfl rfl (fun l9 hl9 ml9 => ?_)
      have l9_0 : en_ld l9 0 = some (gx_r 383) := ml9 0 _ l1_0 rfl
      have l9_1 : en_ld l9 1 = some (.inr (.inl v)) := ml9 1 _ l1_1 rfl
      have l9_4 : en_ld l9 4 = some (.inl (sgM v 16)) := ml9 4 _ hl1 rfl
      refine ex_go (S := (3, l9, [], t107, n, 0)) rfl (fun _ => rfl) rfl ?_
      have hq : fd1 len (sgM v 16) = len + 1 := fd1_y (by first | decide | omega) (by first | decide | omega)
      have hqS : fS1 len S (sgM v 16) = nx S len (sgM v 16) := fS1_y (by first | decide | omega) (by first | decide | omega)
      show en_ex _ _ _ _ _ (fun o => ∃ r, o = .inl r ∧ ∃ t', r = (none, t', n, 0) ∧ ai_HG ah_G t' ∧ ai_hv t' 383 2 = some (.inl (fdv_8 v (fd1 len (sgM v 16)))) ∧ tp t' 384 (fSv_8 v (fd1 len (sgM v 16)) (fS1 len S (sgM v 16))) (fdv_8 v (fd1 len (sgM v 16))) ∧ (∀ c i, ¬ ((c = 383 ∧ i = 2) ∨ c = 384) → ai_hv t' c i = ai_hv tb c i))
      rw [hq, hqS]
      exact fyM_8 _ _ _ t107 (by first | decide | omega) g107 k107 (tp_up hS (fun i hi => (e107 384 i (by first | decide | omega)).trans (e105 384 i (by first | decide | omega))) k8 (by first | decide | omega)) (fun c i h => (e107 c i (by first | decide | omega)).trans ((e105 c i (by first | decide | omega)).trans (e0 c i h))) l9_0 l9_1 hl9
  · refine gx_2f (c := .eq) rfl (by first | decide | omega) (by first | decide | omega) hc2 rfl ?_
    refine gx_ld (i := 4) (d := 0) (v := .inl (sgM v 16)) rfl (fun _ => rfl) hl1 rfl rfl ?_
    refine ex_go (S := (28, l1, [.inl 32, .inl (sgM v 16)], t0, n, 0)) rfl (fun _ => rfl) rfl ?_
    by_cases hc10 : sgM v 16 < 32
    · refine gx_2t (c := .lt) rfl (by first | decide | omega) (by first | decide | omega) hc10 rfl ?_
      refine gx_incC (i := 3) (a := 16) (b := 8) rfl (fun _ => rfl) l1_3 rfl rfl (fun l11 hl11 ml11 => ?_)
      have l11_0 : en_ld l11 0 = some (gx_r 383) := ml11 0 _ l1_0 rfl
      have l11_1 : en_ld l11 1 = some (.inr (.inl v)) := ml11 1 _ l1_1 rfl
      have l11_4 : en_ld l11 4 = some (.inl (sgM v 16)) := ml11 4 _ hl1 rfl
      refine ex_go (S := (3, l11, [], t0, n, 0)) rfl (fun _ => rfl) rfl ?_
      have hq : fd1 len (sgM v 16) = len := fd1_n (by first | decide | omega)
      have hqS : fS1 len S (sgM v 16) = S := fS1_n (by first | decide | omega)
      show en_ex _ _ _ _ _ (fun o => ∃ r, o = .inl r ∧ ∃ t', r = (none, t', n, 0) ∧ ai_HG ah_G t' ∧ ai_hv t' 383 2 = some (.inl (fdv_8 v (fd1 len (sgM v 16)))) ∧ tp t' 384 (fSv_8 v (fd1 len (sgM v 16)) (fS1 len S (sgM v 16))) (fdv_8 v (fd1 len (sgM v 16))) ∧ (∀ c i, ¬ ((c = 383 ∧ i = 2) ∨ c = 384) → ai_hv t' c i = ai_hv tb c i))
      rw [hq, hqS]
      exact fyM_8 _ _ _ t0 (by first | decide | omega) g0 k0 hS (fun c i h => e0 c i h) l11_0 l11_1 hl11
    · refine gx_2f (c := .lt) rfl (by first | decide | omega) (by first | decide | omega) hc10 rfl ?_
      refine gx_ld (i := 4) (d := 0) (v := .inl (sgM v 16)) rfl (fun _ => rfl) hl1 rfl rfl ?_
      refine ex_go (S := (35, l1, [.inl 126, .inl (sgM v 16)], t0, n, 0)) rfl (fun _ => rfl) rfl ?_
      by_cases hc12 : 126 < sgM v 16
      · refine gx_2t (c := .gt) rfl (by first | decide | omega) (by first | decide | omega) hc12 rfl ?_
        refine gx_incC (i := 3) (a := 16) (b := 8) rfl (fun _ => rfl) l1_3 rfl rfl (fun l13 hl13 ml13 => ?_)
        have l13_0 : en_ld l13 0 = some (gx_r 383) := ml13 0 _ l1_0 rfl
        have l13_1 : en_ld l13 1 = some (.inr (.inl v)) := ml13 1 _ l1_1 rfl
        have l13_4 : en_ld l13 4 = some (.inl (sgM v 16)) := ml13 4 _ hl1 rfl
        refine ex_go (S := (3, l13, [], t0, n, 0)) rfl (fun _ => rfl) rfl ?_
        have hq : fd1 len (sgM v 16) = len := fd1_n (by first | decide | omega)
        have hqS : fS1 len S (sgM v 16) = S := fS1_n (by first | decide | omega)
        show en_ex _ _ _ _ _ (fun o => ∃ r, o = .inl r ∧ ∃ t', r = (none, t', n, 0) ∧ ai_HG ah_G t' ∧ ai_hv t' 383 2 = some (.inl (fdv_8 v (fd1 len (sgM v 16)))) ∧ tp t' 384 (fSv_8 v (fd1 len (sgM v 16)) (fS1 len S (sgM v 16))) (fdv_8 v (fd1 len (sgM v 16))) ∧ (∀ c i, ¬ ((c = 383 ∧ i = 2) ∨ c = 384) → ai_hv t' c i = ai_hv tb c i))
        rw [hq, hqS]
        exact fyM_8 _ _ _ t0 (by first | decide | omega) g0 k0 hS (fun c i h => e0 c i h) l13_0 l13_1 hl13
      · refine gx_2f (c := .gt) rfl (by first | decide | omega) (by first | decide | omega) hc12 rfl ?_
        refine gx_ld (i := 0) (d := 2) (v := gx_r 383) rfl (fun _ => rfl) l1_0 rfl rfl ?_
        refine gx_get rfl g0 rfl k0 rfl ?_
        refine ex_go (S := (45, l1, [.inl 1000, .inl len], t0, n, 0)) rfl (fun _ => rfl) rfl ?_
        by_cases hc14 : 1000 ≤ len
        · refine gx_2t (c := .ge) rfl (by first | decide | omega) (by first | decide | omega) hc14 rfl ?_
          refine gx_incC (i := 3) (a := 16) (b := 8) rfl (fun _ => rfl) l1_3 rfl rfl (fun l15 hl15 ml15 => ?_)
          have l15_0 : en_ld l15 0 = some (gx_r 383) := ml15 0 _ l1_0 rfl
          have l15_1 : en_ld l15 1 = some (.inr (.inl v)) := ml15 1 _ l1_1 rfl
          have l15_4 : en_ld l15 4 = some (.inl (sgM v 16)) := ml15 4 _ hl1 rfl
          refine ex_go (S := (3, l15, [], t0, n, 0)) rfl (fun _ => rfl) rfl ?_
          have hq : fd1 len (sgM v 16) = len := fd1_n (by first | decide | omega)
          have hqS : fS1 len S (sgM v 16) = S := fS1_n (by first | decide | omega)
          show en_ex _ _ _ _ _ (fun o => ∃ r, o = .inl r ∧ ∃ t', r = (none, t', n, 0) ∧ ai_HG ah_G t' ∧ ai_hv t' 383 2 = some (.inl (fdv_8 v (fd1 len (sgM v 16)))) ∧ tp t' 384 (fSv_8 v (fd1 len (sgM v 16)) (fS1 len S (sgM v 16))) (fdv_8 v (fd1 len (sgM v 16))) ∧ (∀ c i, ¬ ((c = 383 ∧ i = 2) ∨ c = 384) → ai_hv t' c i = ai_hv tb c i))
          rw [hq, hqS]
          exact fyM_8 _ _ _ t0 (by first | decide | omega) g0 k0 hS (fun c i h => e0 c i h) l15_0 l15_1 hl15
        · refine gx_2f (c := .ge) rfl (by first | decide | omega) (by first | decide | omega) hc14 rfl ?_
          refine gx_ld (i := 0) (d := 2) (v := gx_r 383) rfl (fun _ => rfl) l1_0 rfl rfl ?_
          refine gx_ref (c := 384) rfl g0 rfl rfl rfl rfl ?_
          refine gx_ld (i := 0) (d := 2) (v := gx_r 383) rfl (fun _ => rfl) l1_0 rfl rfl ?_
          refine gx_get rfl g0 rfl k0 rfl ?_
          refine gx_ld (i := 4) (d := 0) (v := .inl (sgM v 16)) rfl (fun _ => rfl) hl1 rfl rfl ?_
          refine gx_ap rfl (fun _ => rfl) g0 rfl rfl rfl (show len < 1000 from by omega) (gx_run1 (show len < 1000 from by omega)) (ai_in_h (by first | decide | omega) (by first | decide | omega) (by first | decide | omega)) rfl (fun t116 g116 k116 e116 => ?_)
          have k17 : ai_hv t116 383 2 = some (.inl len) := (e116 383 2 (by first | decide | omega)).trans k0
          refine gx_ld (i := 0) (d := 2) (v := gx_r 383) rfl (fun _ => rfl) l1_0 rfl rfl ?_
          refine ex_go (S := (61, l1, [gx_r 383, gx_r 383], t116, n, 0)) rfl (fun _ => rfl) rfl ?_
          refine gx_get rfl g116 rfl k17 rfl ?_
          refine ex_go (S := (65, l1, [.inl 1, .inl len, gx_r 383], t116, n, 0)) rfl (fun _ => rfl) rfl ?_
          refine ex_iadd rfl (by first | decide | omega) rfl ?_
          refine gx_put rfl g116 rfl rfl (ai_in_h (by first | decide | omega) (by first | decide | omega) (by first | decide | omega)) rfl (fun t118 g118 k118 e118 => ?_)
          have k19 : ai_hv t118 384 len = some (.inl (sgM v 16)) := (e118 384 len (by first | decide | omega)).trans k116
          refine gx_incC (i := 3) (a := 16) (b := 8) rfl (fun _ => rfl) l1_3 rfl rfl (fun l20 hl20 ml20 => ?_)
          have l20_0 : en_ld l20 0 = some (gx_r 383) := ml20 0 _ l1_0 rfl
          have l20_1 : en_ld l20 1 = some (.inr (.inl v)) := ml20 1 _ l1_1 rfl
          have l20_4 : en_ld l20 4 = some (.inl (sgM v 16)) := ml20 4 _ hl1 rfl
          refine ex_go (S := (3, l20, [], t118, n, 0)) rfl (fun _ => rfl) rfl ?_
          have hq : fd1 len (sgM v 16) = len + 1 := fd1_y (by first | decide | omega) (by first | decide | omega)
          have hqS : fS1 len S (sgM v 16) = nx S len (sgM v 16) := fS1_y (by first | decide | omega) (by first | decide | omega)
          show en_ex _ _ _ _ _ (fun o => ∃ r, o = .inl r ∧ ∃ t', r = (none, t', n, 0) ∧ ai_HG ah_G t' ∧ ai_hv t' 383 2 = some (.inl (fdv_8 v (fd1 len (sgM v 16)))) ∧ tp t' 384 (fSv_8 v (fd1 len (sgM v 16)) (fS1 len S (sgM v 16))) (fdv_8 v (fd1 len (sgM v 16))) ∧ (∀ c i, ¬ ((c = 383 ∧ i = 2) ∨ c = 384) → ai_hv t' c i = ai_hv tb c i))
          rw [hq, hqS]
          exact fyM_8 _ _ _ t118 (by first | decide | omega) g118 k118 (tp_up hS (fun i hi => (e118 384 i (by first | decide | omega)).trans (e116 384 i (by first | decide | omega))) k19 (by first | decide | omega)) (fun c i h => (e118 c i (by first | decide | omega)).trans ((e116 c i (by first | decide | omega)).trans (e0 c i h))) l20_0 l20_1 hl20
theorem fyM_24 {fn : en_F} {n v : Nat} {tb : en_H} (len : Nat) (S : Nat → Nat) (cl : en_L) (t0 : en_H) (hl : len ≤ 1000) (g0 : ai_HG ah_G t0) (k0 : ai_hv t0 383 2 = some (.inl len)) (hS : tp t0 384 S len) (e0 : (∀ c i, ¬ ((c = 383 ∧ i = 2) ∨ c = 384) → ai_hv t0 c i = ai_hv tb c i)) (h0 : en_ld cl 0 = some (gx_r 383)) (h1 : en_ld cl 1 = some (.inr (.inl v))) (h3 : en_ld cl 3 = some (.inl 24)) : en_ex none fn (en_code 91) (fun _ => false) (3, cl, [], t0, n, 0) (fun o => ∃ r, o = .inl r ∧ ∃ t', r = (none, t', n, 0) ∧ ai_HG ah_G t' ∧ ai_hv t' 383 2 = some (.inl (fdv_24 v len)) ∧ tp t' 384 (fSv_24 v len S) (fdv_24 v len) ∧ (∀ c i, ¬ ((c = 383 ∧ i = 2) ∨ c = 384) → ai_hv t' c i = ai_hv tb c i)) := by
  have hg := sgM_le v 24
  refine gx_ld (i := 3) (d := 0) (v := .inl 24) rfl (fun _ => rfl) h3 rfl rfl ?_
  refine ex_go (S := (7, cl, [], t0, n, 0)) rfl (fun _ => rfl) rfl ?_
  refine gx_ld (i := 1) (d := 1) (v := .inr (.inl v)) rfl (fun _ => rfl) h1 rfl rfl ?_
  refine gx_ld (i := 3) (d := 0) (v := .inl 24) rfl (fun _ => rfl) h3 rfl rfl ?_
  refine ex_go (S := (10, cl, [.inr (.inl (en_lshr v 24))], t0, n, 0)) rfl (fun _ => rfl) rfl ?_
  refine ex_go (S := (11, cl, [.inl ((lN (en_lshr v 24)).toInt32.toBitVec.toNat)], t0, n, 0)) rfl (fun _ => rfl) rfl ?_
  refine ex_go (S := (14, cl, [.inl 255, .inl ((lN (en_lshr v 24)).toInt32.toBitVec.toNat)], t0, n, 0)) rfl (fun _ => rfl) rfl ?_
  refine ex_go (S := (15, cl, [.inl ((nI ((lN (en_lshr v 24)).toInt32.toBitVec.toNat) &&& nI 255).toBitVec.toNat)], t0, n, 0)) rfl (fun _ => rfl) rfl ?_
  rw [show (nI ((lN (en_lshr v 24)).toInt32.toBitVec.toNat) &&& nI 255).toBitVec.toNat = sgM v 24 from rfl]
  refine gx_sto (i := 4) (d := 0) rfl (fun _ => rfl) rfl rfl (fun l1 hl1 ml1 => ?_)
  have l1_0 : en_ld l1 0 = some (gx_r 383) := ml1 0 _ h0 rfl
  have l1_1 : en_ld l1 1 = some (.inr (.inl v)) := ml1 1 _ h1 rfl
  have l1_3 : en_ld l1 3 = some (.inl 24) := ml1 3 _ h3 rfl
  refine gx_ld (i := 4) (d := 0) (v := .inl (sgM v 24)) rfl (fun _ => rfl) hl1 rfl rfl ?_
  refine ex_go (S := (21, l1, [.inl 10, .inl (sgM v 24)], t0, n, 0)) rfl (fun _ => rfl) rfl ?_
  by_cases hc2 : sgM v 24 = 10
  · refine gx_2t (c := .eq) rfl (by first | decide | omega) (by first | decide | omega) hc2 rfl ?_
    refine gx_ld (i := 0) (d := 2) (v := gx_r 383) rfl (fun _ => rfl) l1_0 rfl rfl ?_
    refine gx_get rfl g0 rfl k0 rfl ?_
    refine ex_go (S := (45, l1, [.inl 1000, .inl len], t0, n, 0)) rfl (fun _ => rfl) rfl ?_
    by_cases hc3 : 1000 ≤ len
    · refine gx_2t (c := .ge) rfl (by first | decide | omega) (by first | decide | omega) hc3 rfl ?_
      refine gx_incC (i := 3) (a := 24) (b := 16) rfl (fun _ => rfl) l1_3 rfl rfl (fun l4 hl4 ml4 => ?_)
      have l4_0 : en_ld l4 0 = some (gx_r 383) := ml4 0 _ l1_0 rfl
      have l4_1 : en_ld l4 1 = some (.inr (.inl v)) := ml4 1 _ l1_1 rfl
      have l4_4 : en_ld l4 4 = some (.inl (sgM v 24)) := ml4 4 _ hl1 rfl
      refine ex_go (S := (3, l4, [], t0, n, 0)) rfl (fun _ => rfl) rfl ?_
      have hq : fd1 len (sgM v 24) = len := fd1_n (by first | decide | omega)
      have hqS : fS1 len S (sgM v 24) = S := fS1_n (by first | decide | omega)
      show en_ex _ _ _ _ _ (fun o => ∃ r, o = .inl r ∧ ∃ t', r = (none, t', n, 0) ∧ ai_HG ah_G t' ∧ ai_hv t' 383 2 = some (.inl (fdv_16 v (fd1 len (sgM v 24)))) ∧ tp t' 384 (fSv_16 v (fd1 len (sgM v 24)) (fS1 len S (sgM v 24))) (fdv_16 v (fd1 len (sgM v 24))) ∧ (∀ c i, ¬ ((c = 383 ∧ i = 2) ∨ c = 384) → ai_hv t' c i = ai_hv tb c i))
      rw [hq, hqS]
      exact fyM_16 _ _ _ t0 (by first | decide | omega) g0 k0 hS (fun c i h => e0 c i h) l4_0 l4_1 hl4
    · refine gx_2f (c := .ge) rfl (by first | decide | omega) (by first | decide | omega) hc3 rfl ?_
      refine gx_ld (i := 0) (d := 2) (v := gx_r 383) rfl (fun _ => rfl) l1_0 rfl rfl ?_
      refine gx_ref (c := 384) rfl g0 rfl rfl rfl rfl ?_
      refine gx_ld (i := 0) (d := 2) (v := gx_r 383) rfl (fun _ => rfl) l1_0 rfl rfl ?_
      refine gx_get rfl g0 rfl k0 rfl ?_
      refine gx_ld (i := 4) (d := 0) (v := .inl (sgM v 24)) rfl (fun _ => rfl) hl1 rfl rfl ?_
      refine gx_ap rfl (fun _ => rfl) g0 rfl rfl rfl (show len < 1000 from by omega) (gx_run1 (show len < 1000 from by omega)) (ai_in_h (by first | decide | omega) (by first | decide | omega) (by first | decide | omega)) rfl (fun t105 g105 k105 e105 => ?_)
      have k6 : ai_hv t105 383 2 = some (.inl len) := (e105 383 2 (by first | decide | omega)).trans k0
      refine gx_ld (i := 0) (d := 2) (v := gx_r 383) rfl (fun _ => rfl) l1_0 rfl rfl ?_
      refine ex_go (S := (61, l1, [gx_r 383, gx_r 383], t105, n, 0)) rfl (fun _ => rfl) rfl ?_
      refine gx_get rfl g105 rfl k6 rfl ?_
      refine ex_go (S := (65, l1, [.inl 1, .inl len, gx_r 383], t105, n, 0)) rfl (fun _ => rfl) rfl ?_
      refine ex_iadd rfl (by first | decide | omega) rfl ?_
      refine gx_put rfl g105 rfl rfl (ai_in_h (by first | decide | omega) (by first | decide | omega) (by first | decide | omega)) rfl (fun t107 g107 k107 e107 => ?_)
      have k8 : ai_hv t107 384 len = some (.inl (sgM v 24)) := (e107 384 len (by first | decide | omega)).trans k105
      refine gx_incC (i := 3) (a := 24) (b := 16) rfl (fun _ => rfl) l1_3 rfl rfl (fun l9 hl9 ml9 => ?_)
      have l9_0 : en_ld l9 0 = some (gx_r 383) := ml9 0 _ l1_0 rfl
      have l9_1 : en_ld l9 1 = some (.inr (.inl v)) := ml9 1 _ l1_1 rfl
      have l9_4 : en_ld l9 4 = some (.inl (sgM v 24)) := ml9 4 _ hl1 rfl
      refine ex_go (S := (3, l9, [], t107, n, 0)) rfl (fun _ => rfl) rfl ?_
      have hq : fd1 len (sgM v 24) = len + 1 := fd1_y (by first | decide | omega) (by first | decide | omega)
      have hqS : fS1 len S (sgM v 24) = nx S len (sgM v 24) := fS1_y (by first | decide | omega) (by first | decide | omega)
      show en_ex _ _ _ _ _ (fun o => ∃ r, o = .inl r ∧ ∃ t', r = (none, t', n, 0) ∧ ai_HG ah_G t' ∧ ai_hv t' 383 2 = some (.inl (fdv_16 v (fd1 len (sgM v 24)))) ∧ tp t' 384 (fSv_16 v (fd1 len (sgM v 24)) (fS1 len S (sgM v 24))) (fdv_16 v (fd1 len (sgM v 24))) ∧ (∀ c i, ¬ ((c = 383 ∧ i = 2) ∨ c = 384) → ai_hv t' c i = ai_hv tb c i))
      rw [hq, hqS]
      exact fyM_16 _ _ _ t107 (by first | decide | omega) g107 k107 (tp_up hS (fun i hi => (e107 384 i (by first | decide | omega)).trans (e105 384 i (by first | decide | omega))) k8 (by first | decide | omega)) (fun c i h => (e107 c i (by first | decide | omega)).trans ((e105 c i (by first | decide | omega)).trans (e0 c i h))) l9_0 l9_1 hl9
  · refine gx_2f (c := .eq) rfl (by first | decide | omega) (by first | decide | omega) hc2 rfl ?_
    refine gx_ld (i := 4) (d := 0) (v := .inl (sgM v 24)) rfl (fun _ => rfl) hl1 rfl rfl ?_
    refine ex_go (S := (28, l1, [.inl 32, .inl (sgM v 24)], t0, n, 0)) rfl (fun _ => rfl) rfl ?_
    by_cases hc10 : sgM v 24 < 32
    · refine gx_2t (c := .lt) rfl (by first | decide | omega) (by first | decide | omega) hc10 rfl ?_
      refine gx_incC (i := 3) (a := 24) (b := 16) rfl (fun _ => rfl) l1_3 rfl rfl (fun l11 hl11 ml11 => ?_)
      have l11_0 : en_ld l11 0 = some (gx_r 383) := ml11 0 _ l1_0 rfl
      have l11_1 : en_ld l11 1 = some (.inr (.inl v)) := ml11 1 _ l1_1 rfl
      have l11_4 : en_ld l11 4 = some (.inl (sgM v 24)) := ml11 4 _ hl1 rfl
      refine ex_go (S := (3, l11, [], t0, n, 0)) rfl (fun _ => rfl) rfl ?_
      have hq : fd1 len (sgM v 24) = len := fd1_n (by first | decide | omega)
      have hqS : fS1 len S (sgM v 24) = S := fS1_n (by first | decide | omega)
      show en_ex _ _ _ _ _ (fun o => ∃ r, o = .inl r ∧ ∃ t', r = (none, t', n, 0) ∧ ai_HG ah_G t' ∧ ai_hv t' 383 2 = some (.inl (fdv_16 v (fd1 len (sgM v 24)))) ∧ tp t' 384 (fSv_16 v (fd1 len (sgM v 24)) (fS1 len S (sgM v 24))) (fdv_16 v (fd1 len (sgM v 24))) ∧ (∀ c i, ¬ ((c = 383 ∧ i = 2) ∨ c = 384) → ai_hv t' c i = ai_hv tb c i))
      rw [hq, hqS]
      exact fyM_16 _ _ _ t0 (by first | decide | omega) g0 k0 hS (fun c i h => e0 c i h) l11_0 l11_1 hl11
    · refine gx_2f (c := .lt) rfl (by first | decide | omega) (by first | decide | omega) hc10 rfl ?_
      refine gx_ld (i := 4) (d := 0) (v := .inl (sgM v 24)) rfl (fun _ => rfl) hl1 rfl rfl ?_
      refine ex_go (S := (35, l1, [.inl 126, .inl (sgM v 24)], t0, n, 0)) rfl (fun _ => rfl) rfl ?_
      by_cases hc12 : 126 < sgM v 24
      · refine gx_2t (c := .gt) rfl (by first | decide | omega) (by first | decide | omega) hc12 rfl ?_
        refine gx_incC (i := 3) (a := 24) (b := 16) rfl (fun _ => rfl) l1_3 rfl rfl (fun l13 hl13 ml13 => ?_)
        have l13_0 : en_ld l13 0 = some (gx_r 383) := ml13 0 _ l1_0 rfl
        have l13_1 : en_ld l13 1 = some (.inr (.inl v)) := ml13 1 _ l1_1 rfl
        have l13_4 : en_ld l13 4 = some (.inl (sgM v 24)) := ml13 4 _ hl1 rfl
        refine ex_go (S := (3, l13, [], t0, n, 0)) rfl (fun _ => rfl) rfl ?_
        have hq : fd1 len (sgM v 24) = len := fd1_n (by first | decide | omega)
        have hqS : fS1 len S (sgM v 24) = S := fS1_n (by first | decide | omega)
        show en_ex _ _ _ _ _ (fun o => ∃ r, o = .inl r ∧ ∃ t', r = (none, t', n, 0) ∧ ai_HG ah_G t' ∧ ai_hv t' 383 2 = some (.inl (fdv_16 v (fd1 len (sgM v 24)))) ∧ tp t' 384 (fSv_16 v (fd1 len (sgM v 24)) (fS1 len S (sgM v 24))) (fdv_16 v (fd1 len (sgM v 24))) ∧ (∀ c i, ¬ ((c = 383 ∧ i = 2) ∨ c = 384) → ai_hv t' c i = ai_hv tb c i))
        rw [hq, hqS]
        exact fyM_16 _ _ _ t0 (by first | decide | omega) g0 k0 hS (fun c i h => e0 c i h) l13_0 l13_1 hl13
      · refine gx_2f (c := .gt) rfl (by first | decide | omega) (by first | decide | omega) hc12 rfl ?_
        refine gx_ld (i := 0) (d := 2) (v := gx_r 383) rfl (fun _ => rfl) l1_0 rfl rfl ?_
        refine gx_get rfl g0 rfl k0 rfl ?_
        refine ex_go (S := (45, l1, [.inl 1000, .inl len], t0, n, 0)) rfl (fun _ => rfl) rfl ?_
        by_cases hc14 : 1000 ≤ len
        · refine gx_2t (c := .ge) rfl (by first | decide | omega) (by first | decide | omega) hc14 rfl ?_
          refine gx_incC (i := 3) (a := 24) (b := 16) rfl (fun _ => rfl) l1_3 rfl rfl (fun l15 hl15 ml15 => ?_)
          have l15_0 : en_ld l15 0 = some (gx_r 383) := ml15 0 _ l1_0 rfl
          have l15_1 : en_ld l15 1 = some (.inr (.inl v)) := ml15 1 _ l1_1 rfl
          have l15_4 : en_ld l15 4 = some (.inl (sgM v 24)) := ml15 4 _ hl1 rfl
          refine ex_go (S := (3, l15, [], t0, n, 0)) rfl (fun _ => rfl) rfl ?_
          have hq : fd1 len (sgM v 24) = len := fd1_n (by first | decide | omega)
          have hqS : fS1 len S (sgM v 24) = S := fS1_n (by first | decide | omega)
          show en_ex _ _ _ _ _ (fun o => ∃ r, o = .inl r ∧ ∃ t', r = (none, t', n, 0) ∧ ai_HG ah_G t' ∧ ai_hv t' 383 2 = some (.inl (fdv_16 v (fd1 len (sgM v 24)))) ∧ tp t' 384 (fSv_16 v (fd1 len (sgM v 24)) (fS1 len S (sgM v 24))) (fdv_16 v (fd1 len (sgM v 24))) ∧ (∀ c i, ¬ ((c = 383 ∧ i = 2) ∨ c = 384) → ai_hv t' c i = ai_hv tb c i))
          rw [hq, hqS]
          exact fyM_16 _ _ _ t0 (by first | decide | omega) g0 k0 hS (fun c i h => e0 c i h) l15_0 l15_1 hl15
        · refine gx_2f (c := .ge) rfl (by first | decide | omega) (by first | decide | omega) hc14 rfl ?_
          refine gx_ld (i := 0) (d := 2) (v := gx_r 383) rfl (fun _ => rfl) l1_0 rfl rfl ?_
          refine gx_ref (c := 384) rfl g0 rfl rfl rfl rfl ?_
          refine gx_ld (i := 0) (d := 2) (v := gx_r 383) rfl (fun _ => rfl) l1_0 rfl rfl ?_
          refine gx_get rfl g0 rfl k0 rfl ?_
          refine gx_ld (i := 4) (d := 0) (v := .inl (sgM v 24)) rfl (fun _ => rfl) hl1 rfl rfl ?_
          refine gx_ap rfl (fun _ => rfl) g0 rfl rfl rfl (show len < 1000 from by omega) (gx_run1 (show len < 1000 from by omega)) (ai_in_h (by first | decide | omega) (by first | decide | omega) (by first | decide | omega)) rfl (fun t116 g116 k116 e116 => ?_)
          have k17 : ai_hv t116 383 2 = some (.inl len) := (e116 383 2 (by first | decide | omega)).trans k0
          refine gx_ld (i := 0) (d := 2) (v := gx_r 383) rfl (fun _ => rfl) l1_0 rfl rfl ?_
          refine ex_go (S := (61, l1, [gx_r 383, gx_r 383], t116, n, 0)) rfl (fun _ => rfl) rfl ?_
          refine gx_get rfl g116 rfl k17 rfl ?_
          refine ex_go (S := (65, l1, [.inl 1, .inl len, gx_r 383], t116, n, 0)) rfl (fun _ => rfl) rfl ?_
          refine ex_iadd rfl (by first | decide | omega) rfl ?_
          refine gx_put rfl g116 rfl rfl (ai_in_h (by first | decide | omega) (by first | decide | omega) (by first | decide | omega)) rfl (fun t118 g118 k118 e118 => ?_)
          have k19 : ai_hv t118 384 len = some (.inl (sgM v 24)) := (e118 384 len (by first | decide | omega)).trans k116
          refine gx_incC (i := 3) (a := 24) (b := 16) rfl (fun _ => rfl) l1_3 rfl rfl (fun l20 hl20 ml20 => ?_)
          have l20_0 : en_ld l20 0 = some (gx_r 383) := ml20 0 _ l1_0 rfl
          have l20_1 : en_ld l20 1 = some (.inr (.inl v)) := ml20 1 _ l1_1 rfl
          have l20_4 : en_ld l20 4 = some (.inl (sgM v 24)) := ml20 4 _ hl1 rfl
          refine ex_go (S := (3, l20, [], t118, n, 0)) rfl (fun _ => rfl) rfl ?_
          have hq : fd1 len (sgM v 24) = len + 1 := fd1_y (by first | decide | omega) (by first | decide | omega)
          have hqS : fS1 len S (sgM v 24) = nx S len (sgM v 24) := fS1_y (by first | decide | omega) (by first | decide | omega)
          show en_ex _ _ _ _ _ (fun o => ∃ r, o = .inl r ∧ ∃ t', r = (none, t', n, 0) ∧ ai_HG ah_G t' ∧ ai_hv t' 383 2 = some (.inl (fdv_16 v (fd1 len (sgM v 24)))) ∧ tp t' 384 (fSv_16 v (fd1 len (sgM v 24)) (fS1 len S (sgM v 24))) (fdv_16 v (fd1 len (sgM v 24))) ∧ (∀ c i, ¬ ((c = 383 ∧ i = 2) ∨ c = 384) → ai_hv t' c i = ai_hv tb c i))
          rw [hq, hqS]
          exact fyM_16 _ _ _ t118 (by first | decide | omega) g118 k118 (tp_up hS (fun i hi => (e118 384 i (by first | decide | omega)).trans (e116 384 i (by first | decide | omega))) k19 (by first | decide | omega)) (fun c i h => (e118 c i (by first | decide | omega)).trans ((e116 c i (by first | decide | omega)).trans (e0 c i h))) l20_0 l20_1 hl20
theorem fyM_32 {fn : en_F} {n v : Nat} {tb : en_H} (len : Nat) (S : Nat → Nat) (cl : en_L) (t0 : en_H) (hl : len ≤ 1000) (g0 : ai_HG ah_G t0) (k0 : ai_hv t0 383 2 = some (.inl len)) (hS : tp t0 384 S len) (e0 : (∀ c i, ¬ ((c = 383 ∧ i = 2) ∨ c = 384) → ai_hv t0 c i = ai_hv tb c i)) (h0 : en_ld cl 0 = some (gx_r 383)) (h1 : en_ld cl 1 = some (.inr (.inl v))) (h3 : en_ld cl 3 = some (.inl 32)) : en_ex none fn (en_code 91) (fun _ => false) (3, cl, [], t0, n, 0) (fun o => ∃ r, o = .inl r ∧ ∃ t', r = (none, t', n, 0) ∧ ai_HG ah_G t' ∧ ai_hv t' 383 2 = some (.inl (fdv_32 v len)) ∧ tp t' 384 (fSv_32 v len S) (fdv_32 v len) ∧ (∀ c i, ¬ ((c = 383 ∧ i = 2) ∨ c = 384) → ai_hv t' c i = ai_hv tb c i)) := by
  have hg := sgM_le v 32
  refine gx_ld (i := 3) (d := 0) (v := .inl 32) rfl (fun _ => rfl) h3 rfl rfl ?_
  refine ex_go (S := (7, cl, [], t0, n, 0)) rfl (fun _ => rfl) rfl ?_
  refine gx_ld (i := 1) (d := 1) (v := .inr (.inl v)) rfl (fun _ => rfl) h1 rfl rfl ?_
  refine gx_ld (i := 3) (d := 0) (v := .inl 32) rfl (fun _ => rfl) h3 rfl rfl ?_
  refine ex_go (S := (10, cl, [.inr (.inl (en_lshr v 32))], t0, n, 0)) rfl (fun _ => rfl) rfl ?_
  refine ex_go (S := (11, cl, [.inl ((lN (en_lshr v 32)).toInt32.toBitVec.toNat)], t0, n, 0)) rfl (fun _ => rfl) rfl ?_
  refine ex_go (S := (14, cl, [.inl 255, .inl ((lN (en_lshr v 32)).toInt32.toBitVec.toNat)], t0, n, 0)) rfl (fun _ => rfl) rfl ?_
  refine ex_go (S := (15, cl, [.inl ((nI ((lN (en_lshr v 32)).toInt32.toBitVec.toNat) &&& nI 255).toBitVec.toNat)], t0, n, 0)) rfl (fun _ => rfl) rfl ?_
  rw [show (nI ((lN (en_lshr v 32)).toInt32.toBitVec.toNat) &&& nI 255).toBitVec.toNat = sgM v 32 from rfl]
  refine gx_sto (i := 4) (d := 0) rfl (fun _ => rfl) rfl rfl (fun l1 hl1 ml1 => ?_)
  have l1_0 : en_ld l1 0 = some (gx_r 383) := ml1 0 _ h0 rfl
  have l1_1 : en_ld l1 1 = some (.inr (.inl v)) := ml1 1 _ h1 rfl
  have l1_3 : en_ld l1 3 = some (.inl 32) := ml1 3 _ h3 rfl
  refine gx_ld (i := 4) (d := 0) (v := .inl (sgM v 32)) rfl (fun _ => rfl) hl1 rfl rfl ?_
  refine ex_go (S := (21, l1, [.inl 10, .inl (sgM v 32)], t0, n, 0)) rfl (fun _ => rfl) rfl ?_
  by_cases hc2 : sgM v 32 = 10
  · refine gx_2t (c := .eq) rfl (by first | decide | omega) (by first | decide | omega) hc2 rfl ?_
    refine gx_ld (i := 0) (d := 2) (v := gx_r 383) rfl (fun _ => rfl) l1_0 rfl rfl ?_
    refine gx_get rfl g0 rfl k0 rfl ?_
    refine ex_go (S := (45, l1, [.inl 1000, .inl len], t0, n, 0)) rfl (fun _ => rfl) rfl ?_
    by_cases hc3 : 1000 ≤ len
    · refine gx_2t (c := .ge) rfl (by first | decide | omega) (by first | decide | omega) hc3 rfl ?_
      refine gx_incC (i := 3) (a := 32) (b := 24) rfl (fun _ => rfl) l1_3 rfl rfl (fun l4 hl4 ml4 => ?_)
      have l4_0 : en_ld l4 0 = some (gx_r 383) := ml4 0 _ l1_0 rfl
      have l4_1 : en_ld l4 1 = some (.inr (.inl v)) := ml4 1 _ l1_1 rfl
      have l4_4 : en_ld l4 4 = some (.inl (sgM v 32)) := ml4 4 _ hl1 rfl
      refine ex_go (S := (3, l4, [], t0, n, 0)) rfl (fun _ => rfl) rfl ?_
      have hq : fd1 len (sgM v 32) = len := fd1_n (by first | decide | omega)
      have hqS : fS1 len S (sgM v 32) = S := fS1_n (by first | decide | omega)
      show en_ex _ _ _ _ _ (fun o => ∃ r, o = .inl r ∧ ∃ t', r = (none, t', n, 0) ∧ ai_HG ah_G t' ∧ ai_hv t' 383 2 = some (.inl (fdv_24 v (fd1 len (sgM v 32)))) ∧ tp t' 384 (fSv_24 v (fd1 len (sgM v 32)) (fS1 len S (sgM v 32))) (fdv_24 v (fd1 len (sgM v 32))) ∧ (∀ c i, ¬ ((c = 383 ∧ i = 2) ∨ c = 384) → ai_hv t' c i = ai_hv tb c i))
      rw [hq, hqS]
      exact fyM_24 _ _ _ t0 (by first | decide | omega) g0 k0 hS (fun c i h => e0 c i h) l4_0 l4_1 hl4
    · refine gx_2f (c := .ge) rfl (by first | decide | omega) (by first | decide | omega) hc3 rfl ?_
      refine gx_ld (i := 0) (d := 2) (v := gx_r 383) rfl (fun _ => rfl) l1_0 rfl rfl ?_
      refine gx_ref (c := 384) rfl g0 rfl rfl rfl rfl ?_
      refine gx_ld (i := 0) (d := 2) (v := gx_r 383) rfl (fun _ => rfl) l1_0 rfl rfl ?_
      refine gx_get rfl g0 rfl k0 rfl ?_
      refine gx_ld (i := 4) (d := 0) (v := .inl (sgM v 32)) rfl (fun _ => rfl) hl1 rfl rfl ?_
      refine gx_ap rfl (fun _ => rfl) g0 rfl rfl rfl (show len < 1000 from by omega) (gx_run1 (show len < 1000 from by omega)) (ai_in_h (by first | decide | omega) (by first | decide | omega) (by first | decide | omega)) rfl (fun t105 g105 k105 e105 => ?_)
      have k6 : ai_hv t105 383 2 = some (.inl len) := (e105 383 2 (by first | decide | omega)).trans k0
      refine gx_ld (i := 0) (d := 2) (v := gx_r 383) rfl (fun _ => rfl) l1_0 rfl rfl ?_
      refine ex_go (S := (61, l1, [gx_r 383, gx_r 383], t105, n, 0)) rfl (fun _ => rfl) rfl ?_
      refine gx_get rfl g105 rfl k6 rfl ?_
      refine ex_go (S := (65, l1, [.inl 1, .inl len, gx_r 383], t105, n, 0)) rfl (fun _ => rfl) rfl ?_
      refine ex_iadd rfl (by first | decide | omega) rfl ?_
      refine gx_put rfl g105 rfl rfl (ai_in_h (by first | decide | omega) (by first | decide | omega) (by first | decide | omega)) rfl (fun t107 g107 k107 e107 => ?_)
      have k8 : ai_hv t107 384 len = some (.inl (sgM v 32)) := (e107 384 len (by first | decide | omega)).trans k105
      refine gx_incC (i := 3) (a := 32) (b := 24) rfl (fun _ => rfl) l1_3 rfl rfl (fun l9 hl9 ml9 => ?_)
      have l9_0 : en_ld l9 0 = some (gx_r 383) := ml9 0 _ l1_0 rfl
      have l9_1 : en_ld l9 1 = some (.inr (.inl v)) := ml9 1 _ l1_1 rfl
      have l9_4 : en_ld l9 4 = some (.inl (sgM v 32)) := ml9 4 _ hl1 rfl
      refine ex_go (S := (3, l9, [], t107, n, 0)) rfl (fun _ => rfl) rfl ?_
      have hq : fd1 len (sgM v 32) = len + 1 := fd1_y (by first | decide | omega) (by first | decide | omega)
      have hqS : fS1 len S (sgM v 32) = nx S len (sgM v 32) := fS1_y (by first | decide | omega) (by first | decide | omega)
      show en_ex _ _ _ _ _ (fun o => ∃ r, o = .inl r ∧ ∃ t', r = (none, t', n, 0) ∧ ai_HG ah_G t' ∧ ai_hv t' 383 2 = some (.inl (fdv_24 v (fd1 len (sgM v 32)))) ∧ tp t' 384 (fSv_24 v (fd1 len (sgM v 32)) (fS1 len S (sgM v 32))) (fdv_24 v (fd1 len (sgM v 32))) ∧ (∀ c i, ¬ ((c = 383 ∧ i = 2) ∨ c = 384) → ai_hv t' c i = ai_hv tb c i))
      rw [hq, hqS]
      exact fyM_24 _ _ _ t107 (by first | decide | omega) g107 k107 (tp_up hS (fun i hi => (e107 384 i (by first | decide | omega)).trans (e105 384 i (by first | decide | omega))) k8 (by first | decide | omega)) (fun c i h => (e107 c i (by first | decide | omega)).trans ((e105 c i (by first | decide | omega)).trans (e0 c i h))) l9_0 l9_1 hl9
  · refine gx_2f (c := .eq) rfl (by first | decide | omega) (by first | decide | omega) hc2 rfl ?_
    refine gx_ld (i := 4) (d := 0) (v := .inl (sgM v 32)) rfl (fun _ => rfl) hl1 rfl rfl ?_
    refine ex_go (S := (28, l1, [.inl 32, .inl (sgM v 32)], t0, n, 0)) rfl (fun _ => rfl) rfl ?_
    by_cases hc10 : sgM v 32 < 32
    · refine gx_2t (c := .lt) rfl (by first | decide | omega) (by first | decide | omega) hc10 rfl ?_
      refine gx_incC (i := 3) (a := 32) (b := 24) rfl (fun _ => rfl) l1_3 rfl rfl (fun l11 hl11 ml11 => ?_)
      have l11_0 : en_ld l11 0 = some (gx_r 383) := ml11 0 _ l1_0 rfl
      have l11_1 : en_ld l11 1 = some (.inr (.inl v)) := ml11 1 _ l1_1 rfl
      have l11_4 : en_ld l11 4 = some (.inl (sgM v 32)) := ml11 4 _ hl1 rfl
      refine ex_go (S := (3, l11, [], t0, n, 0)) rfl (fun _ => rfl) rfl ?_
      have hq : fd1 len (sgM v 32) = len := fd1_n (by first | decide | omega)
      have hqS : fS1 len S (sgM v 32) = S := fS1_n (by first | decide | omega)
      show en_ex _ _ _ _ _ (fun o => ∃ r, o = .inl r ∧ ∃ t', r = (none, t', n, 0) ∧ ai_HG ah_G t' ∧ ai_hv t' 383 2 = some (.inl (fdv_24 v (fd1 len (sgM v 32)))) ∧ tp t' 384 (fSv_24 v (fd1 len (sgM v 32)) (fS1 len S (sgM v 32))) (fdv_24 v (fd1 len (sgM v 32))) ∧ (∀ c i, ¬ ((c = 383 ∧ i = 2) ∨ c = 384) → ai_hv t' c i = ai_hv tb c i))
      rw [hq, hqS]
      exact fyM_24 _ _ _ t0 (by first | decide | omega) g0 k0 hS (fun c i h => e0 c i h) l11_0 l11_1 hl11
    · refine gx_2f (c := .lt) rfl (by first | decide | omega) (by first | decide | omega) hc10 rfl ?_
      refine gx_ld (i := 4) (d := 0) (v := .inl (sgM v 32)) rfl (fun _ => rfl) hl1 rfl rfl ?_
      refine ex_go (S := (35, l1, [.inl 126, .inl (sgM v 32)], t0, n, 0)) rfl (fun _ => rfl) rfl ?_
      by_cases hc12 : 126 < sgM v 32
      · refine gx_2t (c := .gt) rfl (by first | decide | omega) (by first | decide | omega) hc12 rfl ?_
        refine gx_incC (i := 3) (a := 32) (b := 24) rfl (fun _ => rfl) l1_3 rfl rfl (fun l13 hl13 ml13 => ?_)
        have l13_0 : en_ld l13 0 = some (gx_r 383) := ml13 0 _ l1_0 rfl
        have l13_1 : en_ld l13 1 = some (.inr (.inl v)) := ml13 1 _ l1_1 rfl
        have l13_4 : en_ld l13 4 = some (.inl (sgM v 32)) := ml13 4 _ hl1 rfl
        refine ex_go (S := (3, l13, [], t0, n, 0)) rfl (fun _ => rfl) rfl ?_
        have hq : fd1 len (sgM v 32) = len := fd1_n (by first | decide | omega)
        have hqS : fS1 len S (sgM v 32) = S := fS1_n (by first | decide | omega)
        show en_ex _ _ _ _ _ (fun o => ∃ r, o = .inl r ∧ ∃ t', r = (none, t', n, 0) ∧ ai_HG ah_G t' ∧ ai_hv t' 383 2 = some (.inl (fdv_24 v (fd1 len (sgM v 32)))) ∧ tp t' 384 (fSv_24 v (fd1 len (sgM v 32)) (fS1 len S (sgM v 32))) (fdv_24 v (fd1 len (sgM v 32))) ∧ (∀ c i, ¬ ((c = 383 ∧ i = 2) ∨ c = 384) → ai_hv t' c i = ai_hv tb c i))
        rw [hq, hqS]
        exact fyM_24 _ _ _ t0 (by first | decide | omega) g0 k0 hS (fun c i h => e0 c i h) l13_0 l13_1 hl13
      · refine gx_2f (c := .gt) rfl (by first | decide | omega) (by first | decide | omega) hc12 rfl ?_
        refine gx_ld (i := 0) (d := 2) (v := gx_r 383) rfl (fun _ => rfl) l1_0 rfl rfl ?_
        refine gx_get rfl g0 rfl k0 rfl ?_
        refine ex_go (S := (45, l1, [.inl 1000, .inl len], t0, n, 0)) rfl (fun _ => rfl) rfl ?_
        by_cases hc14 : 1000 ≤ len
        · refine gx_2t (c := .ge) rfl (by first | decide | omega) (by first | decide | omega) hc14 rfl ?_
          refine gx_incC (i := 3) (a := 32) (b := 24) rfl (fun _ => rfl) l1_3 rfl rfl (fun l15 hl15 ml15 => ?_)
          have l15_0 : en_ld l15 0 = some (gx_r 383) := ml15 0 _ l1_0 rfl
          have l15_1 : en_ld l15 1 = some (.inr (.inl v)) := ml15 1 _ l1_1 rfl
          have l15_4 : en_ld l15 4 = some (.inl (sgM v 32)) := ml15 4 _ hl1 rfl
          refine ex_go (S := (3, l15, [], t0, n, 0)) rfl (fun _ => rfl) rfl ?_
          have hq : fd1 len (sgM v 32) = len := fd1_n (by first | decide | omega)
          have hqS : fS1 len S (sgM v 32) = S := fS1_n (by first | decide | omega)
          show en_ex _ _ _ _ _ (fun o => ∃ r, o = .inl r ∧ ∃ t', r = (none, t', n, 0) ∧ ai_HG ah_G t' ∧ ai_hv t' 383 2 = some (.inl (fdv_24 v (fd1 len (sgM v 32)))) ∧ tp t' 384 (fSv_24 v (fd1 len (sgM v 32)) (fS1 len S (sgM v 32))) (fdv_24 v (fd1 len (sgM v 32))) ∧ (∀ c i, ¬ ((c = 383 ∧ i = 2) ∨ c = 384) → ai_hv t' c i = ai_hv tb c i))
          rw [hq, hqS]
          exact fyM_24 _ _ _ t0 (by first | decide | omega) g0 k0 hS (fun c i h => e0 c i h) l15_0 l15_1 hl15
        · refine gx_2f (c := .ge) rfl (by first | decide | omega) (by first | decide | omega) hc14 rfl ?_
          refine gx_ld (i := 0) (d := 2) (v := gx_r 383) rfl (fun _ => rfl) l1_0 rfl rfl ?_
          refine gx_ref (c := 384) rfl g0 rfl rfl rfl rfl ?_
          refine gx_ld (i := 0) (d := 2) (v := gx_r 383) rfl (fun _ => rfl) l1_0 rfl rfl ?_
          refine gx_get rfl g0 rfl k0 rfl ?_
          refine gx_ld (i := 4) (d := 0) (v := .inl (sgM v 32)) rfl (fun _ => rfl) hl1 rfl rfl ?_
          refine gx_ap rfl (fun _ => rfl) g0 rfl rfl rfl (show len < 1000 from by omega) (gx_run1 (show len < 1000 from by omega)) (ai_in_h (by first | decide | omega) (by first | decide | omega) (by first | decide | omega)) rfl (fun t116 g116 k116 e116 => ?_)
          have k17 : ai_hv t116 383 2 = some (.inl len) := (e116 383 2 (by first | decide | omega)).trans k0
          refine gx_ld (i := 0) (d := 2) (v := gx_r 383) rfl (fun _ => rfl) l1_0 rfl rfl ?_
          refine ex_go (S := (61, l1, [gx_r 383, gx_r 383], t116, n, 0)) rfl (fun _ => rfl) rfl ?_
          refine gx_get rfl g116 rfl k17 rfl ?_
          refine ex_go (S := (65, l1, [.inl 1, .inl len, gx_r 383], t116, n, 0)) rfl (fun _ => rfl) rfl ?_
          refine ex_iadd rfl (by first | decide | omega) rfl ?_
          refine gx_put rfl g116 rfl rfl (ai_in_h (by first | decide | omega) (by first | decide | omega) (by first | decide | omega)) rfl (fun t118 g118 k118 e118 => ?_)
          have k19 : ai_hv t118 384 len = some (.inl (sgM v 32)) := (e118 384 len (by first | decide | omega)).trans k116
          refine gx_incC (i := 3) (a := 32) (b := 24) rfl (fun _ => rfl) l1_3 rfl rfl (fun l20 hl20 ml20 => ?_)
          have l20_0 : en_ld l20 0 = some (gx_r 383) := ml20 0 _ l1_0 rfl
          have l20_1 : en_ld l20 1 = some (.inr (.inl v)) := ml20 1 _ l1_1 rfl
          have l20_4 : en_ld l20 4 = some (.inl (sgM v 32)) := ml20 4 _ hl1 rfl
          refine ex_go (S := (3, l20, [], t118, n, 0)) rfl (fun _ => rfl) rfl ?_
          have hq : fd1 len (sgM v 32) = len + 1 := fd1_y (by first | decide | omega) (by first | decide | omega)
          have hqS : fS1 len S (sgM v 32) = nx S len (sgM v 32) := fS1_y (by first | decide | omega) (by first | decide | omega)
          show en_ex _ _ _ _ _ (fun o => ∃ r, o = .inl r ∧ ∃ t', r = (none, t', n, 0) ∧ ai_HG ah_G t' ∧ ai_hv t' 383 2 = some (.inl (fdv_24 v (fd1 len (sgM v 32)))) ∧ tp t' 384 (fSv_24 v (fd1 len (sgM v 32)) (fS1 len S (sgM v 32))) (fdv_24 v (fd1 len (sgM v 32))) ∧ (∀ c i, ¬ ((c = 383 ∧ i = 2) ∨ c = 384) → ai_hv t' c i = ai_hv tb c i))
          rw [hq, hqS]
          exact fyM_24 _ _ _ t118 (by first | decide | omega) g118 k118 (tp_up hS (fun i hi => (e118 384 i (by first | decide | omega)).trans (e116 384 i (by first | decide | omega))) k19 (by first | decide | omega)) (fun c i h => (e118 c i (by first | decide | omega)).trans ((e116 c i (by first | decide | omega)).trans (e0 c i h))) l20_0 l20_1 hl20
theorem fyM_40 {fn : en_F} {n v : Nat} {tb : en_H} (len : Nat) (S : Nat → Nat) (cl : en_L) (t0 : en_H) (hl : len ≤ 1000) (g0 : ai_HG ah_G t0) (k0 : ai_hv t0 383 2 = some (.inl len)) (hS : tp t0 384 S len) (e0 : (∀ c i, ¬ ((c = 383 ∧ i = 2) ∨ c = 384) → ai_hv t0 c i = ai_hv tb c i)) (h0 : en_ld cl 0 = some (gx_r 383)) (h1 : en_ld cl 1 = some (.inr (.inl v))) (h3 : en_ld cl 3 = some (.inl 40)) : en_ex none fn (en_code 91) (fun _ => false) (3, cl, [], t0, n, 0) (fun o => ∃ r, o = .inl r ∧ ∃ t', r = (none, t', n, 0) ∧ ai_HG ah_G t' ∧ ai_hv t' 383 2 = some (.inl (fdv_40 v len)) ∧ tp t' 384 (fSv_40 v len S) (fdv_40 v len) ∧ (∀ c i, ¬ ((c = 383 ∧ i = 2) ∨ c = 384) → ai_hv t' c i = ai_hv tb c i)) := by
  have hg := sgM_le v 40
  refine gx_ld (i := 3) (d := 0) (v := .inl 40) rfl (fun _ => rfl) h3 rfl rfl ?_
  refine ex_go (S := (7, cl, [], t0, n, 0)) rfl (fun _ => rfl) rfl ?_
  refine gx_ld (i := 1) (d := 1) (v := .inr (.inl v)) rfl (fun _ => rfl) h1 rfl rfl ?_
  refine gx_ld (i := 3) (d := 0) (v := .inl 40) rfl (fun _ => rfl) h3 rfl rfl ?_
  refine ex_go (S := (10, cl, [.inr (.inl (en_lshr v 40))], t0, n, 0)) rfl (fun _ => rfl) rfl ?_
  refine ex_go (S := (11, cl, [.inl ((lN (en_lshr v 40)).toInt32.toBitVec.toNat)], t0, n, 0)) rfl (fun _ => rfl) rfl ?_
  refine ex_go (S := (14, cl, [.inl 255, .inl ((lN (en_lshr v 40)).toInt32.toBitVec.toNat)], t0, n, 0)) rfl (fun _ => rfl) rfl ?_
  refine ex_go (S := (15, cl, [.inl ((nI ((lN (en_lshr v 40)).toInt32.toBitVec.toNat) &&& nI 255).toBitVec.toNat)], t0, n, 0)) rfl (fun _ => rfl) rfl ?_
  rw [show (nI ((lN (en_lshr v 40)).toInt32.toBitVec.toNat) &&& nI 255).toBitVec.toNat = sgM v 40 from rfl]
  refine gx_sto (i := 4) (d := 0) rfl (fun _ => rfl) rfl rfl (fun l1 hl1 ml1 => ?_)
  have l1_0 : en_ld l1 0 = some (gx_r 383) := ml1 0 _ h0 rfl
  have l1_1 : en_ld l1 1 = some (.inr (.inl v)) := ml1 1 _ h1 rfl
  have l1_3 : en_ld l1 3 = some (.inl 40) := ml1 3 _ h3 rfl
  refine gx_ld (i := 4) (d := 0) (v := .inl (sgM v 40)) rfl (fun _ => rfl) hl1 rfl rfl ?_
  refine ex_go (S := (21, l1, [.inl 10, .inl (sgM v 40)], t0, n, 0)) rfl (fun _ => rfl) rfl ?_
  by_cases hc2 : sgM v 40 = 10
  · refine gx_2t (c := .eq) rfl (by first | decide | omega) (by first | decide | omega) hc2 rfl ?_
    refine gx_ld (i := 0) (d := 2) (v := gx_r 383) rfl (fun _ => rfl) l1_0 rfl rfl ?_
    refine gx_get rfl g0 rfl k0 rfl ?_
    refine ex_go (S := (45, l1, [.inl 1000, .inl len], t0, n, 0)) rfl (fun _ => rfl) rfl ?_
    by_cases hc3 : 1000 ≤ len
    · refine gx_2t (c := .ge) rfl (by first | decide | omega) (by first | decide | omega) hc3 rfl ?_
      refine gx_incC (i := 3) (a := 40) (b := 32) rfl (fun _ => rfl) l1_3 rfl rfl (fun l4 hl4 ml4 => ?_)
      have l4_0 : en_ld l4 0 = some (gx_r 383) := ml4 0 _ l1_0 rfl
      have l4_1 : en_ld l4 1 = some (.inr (.inl v)) := ml4 1 _ l1_1 rfl
      have l4_4 : en_ld l4 4 = some (.inl (sgM v 40)) := ml4 4 _ hl1 rfl
      refine ex_go (S := (3, l4, [], t0, n, 0)) rfl (fun _ => rfl) rfl ?_
      have hq : fd1 len (sgM v 40) = len := fd1_n (by first | decide | omega)
      have hqS : fS1 len S (sgM v 40) = S := fS1_n (by first | decide | omega)
      show en_ex _ _ _ _ _ (fun o => ∃ r, o = .inl r ∧ ∃ t', r = (none, t', n, 0) ∧ ai_HG ah_G t' ∧ ai_hv t' 383 2 = some (.inl (fdv_32 v (fd1 len (sgM v 40)))) ∧ tp t' 384 (fSv_32 v (fd1 len (sgM v 40)) (fS1 len S (sgM v 40))) (fdv_32 v (fd1 len (sgM v 40))) ∧ (∀ c i, ¬ ((c = 383 ∧ i = 2) ∨ c = 384) → ai_hv t' c i = ai_hv tb c i))
      rw [hq, hqS]
      exact fyM_32 _ _ _ t0 (by first | decide | omega) g0 k0 hS (fun c i h => e0 c i h) l4_0 l4_1 hl4
    · refine gx_2f (c := .ge) rfl (by first | decide | omega) (by first | decide | omega) hc3 rfl ?_
      refine gx_ld (i := 0) (d := 2) (v := gx_r 383) rfl (fun _ => rfl) l1_0 rfl rfl ?_
      refine gx_ref (c := 384) rfl g0 rfl rfl rfl rfl ?_
      refine gx_ld (i := 0) (d := 2) (v := gx_r 383) rfl (fun _ => rfl) l1_0 rfl rfl ?_
      refine gx_get rfl g0 rfl k0 rfl ?_
      refine gx_ld (i := 4) (d := 0) (v := .inl (sgM v 40)) rfl (fun _ => rfl) hl1 rfl rfl ?_
      refine gx_ap rfl (fun _ => rfl) g0 rfl rfl rfl (show len < 1000 from by omega) (gx_run1 (show len < 1000 from by omega)) (ai_in_h (by first | decide | omega) (by first | decide | omega) (by first | decide | omega)) rfl (fun t105 g105 k105 e105 => ?_)
      have k6 : ai_hv t105 383 2 = some (.inl len) := (e105 383 2 (by first | decide | omega)).trans k0
      refine gx_ld (i := 0) (d := 2) (v := gx_r 383) rfl (fun _ => rfl) l1_0 rfl rfl ?_
      refine ex_go (S := (61, l1, [gx_r 383, gx_r 383], t105, n, 0)) rfl (fun _ => rfl) rfl ?_
      refine gx_get rfl g105 rfl k6 rfl ?_
      refine ex_go (S := (65, l1, [.inl 1, .inl len, gx_r 383], t105, n, 0)) rfl (fun _ => rfl) rfl ?_
      refine ex_iadd rfl (by first | decide | omega) rfl ?_
      refine gx_put rfl g105 rfl rfl (ai_in_h (by first | decide | omega) (by first | decide | omega) (by first | decide | omega)) rfl (fun t107 g107 k107 e107 => ?_)
      have k8 : ai_hv t107 384 len = some (.inl (sgM v 40)) := (e107 384 len (by first | decide | omega)).trans k105
      refine gx_incC (i := 3) (a := 40) (b := 32) rfl (fun _ => rfl) l1_3 rfl rfl (fun l9 hl9 ml9 => ?_)
      have l9_0 : en_ld l9 0 = some (gx_r 383) := ml9 0 _ l1_0 rfl
      have l9_1 : en_ld l9 1 = some (.inr (.inl v)) := ml9 1 _ l1_1 rfl
      have l9_4 : en_ld l9 4 = some (.inl (sgM v 40)) := ml9 4 _ hl1 rfl
      refine ex_go (S := (3, l9, [], t107, n, 0)) rfl (fun _ => rfl) rfl ?_
      have hq : fd1 len (sgM v 40) = len + 1 := fd1_y (by first | decide | omega) (by first | decide | omega)
      have hqS : fS1 len S (sgM v 40) = nx S len (sgM v 40) := fS1_y (by first | decide | omega) (by first | decide | omega)
      show en_ex _ _ _ _ _ (fun o => ∃ r, o = .inl r ∧ ∃ t', r = (none, t', n, 0) ∧ ai_HG ah_G t' ∧ ai_hv t' 383 2 = some (.inl (fdv_32 v (fd1 len (sgM v 40)))) ∧ tp t' 384 (fSv_32 v (fd1 len (sgM v 40)) (fS1 len S (sgM v 40))) (fdv_32 v (fd1 len (sgM v 40))) ∧ (∀ c i, ¬ ((c = 383 ∧ i = 2) ∨ c = 384) → ai_hv t' c i = ai_hv tb c i))
      rw [hq, hqS]
      exact fyM_32 _ _ _ t107 (by first | decide | omega) g107 k107 (tp_up hS (fun i hi => (e107 384 i (by first | decide | omega)).trans (e105 384 i (by first | decide | omega))) k8 (by first | decide | omega)) (fun c i h => (e107 c i (by first | decide | omega)).trans ((e105 c i (by first | decide | omega)).trans (e0 c i h))) l9_0 l9_1 hl9
  · refine gx_2f (c := .eq) rfl (by first | decide | omega) (by first | decide | omega) hc2 rfl ?_
    refine gx_ld (i := 4) (d := 0) (v := .inl (sgM v 40)) rfl (fun _ => rfl) hl1 rfl rfl ?_
    refine ex_go (S := (28, l1, [.inl 32, .inl (sgM v 40)], t0, n, 0)) rfl (fun _ => rfl) rfl ?_
    by_cases hc10 : sgM v 40 < 32
    · refine gx_2t (c := .lt) rfl (by first | decide | omega) (by first | decide | omega) hc10 rfl ?_
      refine gx_incC (i := 3) (a := 40) (b := 32) rfl (fun _ => rfl) l1_3 rfl rfl (fun l11 hl11 ml11 => ?_)
      have l11_0 : en_ld l11 0 = some (gx_r 383) := ml11 0 _ l1_0 rfl
      have l11_1 : en_ld l11 1 = some (.inr (.inl v)) := ml11 1 _ l1_1 rfl
      have l11_4 : en_ld l11 4 = some (.inl (sgM v 40)) := ml11 4 _ hl1 rfl
      refine ex_go (S := (3, l11, [], t0, n, 0)) rfl (fun _ => rfl) rfl ?_
      have hq : fd1 len (sgM v 40) = len := fd1_n (by first | decide | omega)
      have hqS : fS1 len S (sgM v 40) = S := fS1_n (by first | decide | omega)
      show en_ex _ _ _ _ _ (fun o => ∃ r, o = .inl r ∧ ∃ t', r = (none, t', n, 0) ∧ ai_HG ah_G t' ∧ ai_hv t' 383 2 = some (.inl (fdv_32 v (fd1 len (sgM v 40)))) ∧ tp t' 384 (fSv_32 v (fd1 len (sgM v 40)) (fS1 len S (sgM v 40))) (fdv_32 v (fd1 len (sgM v 40))) ∧ (∀ c i, ¬ ((c = 383 ∧ i = 2) ∨ c = 384) → ai_hv t' c i = ai_hv tb c i))
      rw [hq, hqS]
      exact fyM_32 _ _ _ t0 (by first | decide | omega) g0 k0 hS (fun c i h => e0 c i h) l11_0 l11_1 hl11
    · refine gx_2f (c := .lt) rfl (by first | decide | omega) (by first | decide | omega) hc10 rfl ?_
      refine gx_ld (i := 4) (d := 0) (v := .inl (sgM v 40)) rfl (fun _ => rfl) hl1 rfl rfl ?_
      refine ex_go (S := (35, l1, [.inl 126, .inl (sgM v 40)], t0, n, 0)) rfl (fun _ => rfl) rfl ?_
      by_cases hc12 : 126 < sgM v 40
      · refine gx_2t (c := .gt) rfl (by first | decide | omega) (by first | decide | omega) hc12 rfl ?_
        refine gx_incC (i := 3) (a := 40) (b := 32) rfl (fun _ => rfl) l1_3 rfl rfl (fun l13 hl13 ml13 => ?_)
        have l13_0 : en_ld l13 0 = some (gx_r 383) := ml13 0 _ l1_0 rfl
        have l13_1 : en_ld l13 1 = some (.inr (.inl v)) := ml13 1 _ l1_1 rfl
        have l13_4 : en_ld l13 4 = some (.inl (sgM v 40)) := ml13 4 _ hl1 rfl
        refine ex_go (S := (3, l13, [], t0, n, 0)) rfl (fun _ => rfl) rfl ?_
        have hq : fd1 len (sgM v 40) = len := fd1_n (by first | decide | omega)
        have hqS : fS1 len S (sgM v 40) = S := fS1_n (by first | decide | omega)
        show en_ex _ _ _ _ _ (fun o => ∃ r, o = .inl r ∧ ∃ t', r = (none, t', n, 0) ∧ ai_HG ah_G t' ∧ ai_hv t' 383 2 = some (.inl (fdv_32 v (fd1 len (sgM v 40)))) ∧ tp t' 384 (fSv_32 v (fd1 len (sgM v 40)) (fS1 len S (sgM v 40))) (fdv_32 v (fd1 len (sgM v 40))) ∧ (∀ c i, ¬ ((c = 383 ∧ i = 2) ∨ c = 384) → ai_hv t' c i = ai_hv tb c i))
        rw [hq, hqS]
        exact fyM_32 _ _ _ t0 (by first | decide | omega) g0 k0 hS (fun c i h => e0 c i h) l13_0 l13_1 hl13
      · refine gx_2f (c := .gt) rfl (by first | decide | omega) (by first | decide | omega) hc12 rfl ?_
        refine gx_ld (i := 0) (d := 2) (v := gx_r 383) rfl (fun _ => rfl) l1_0 rfl rfl ?_
        refine gx_get rfl g0 rfl k0 rfl ?_
        refine ex_go (S := (45, l1, [.inl 1000, .inl len], t0, n, 0)) rfl (fun _ => rfl) rfl ?_
        by_cases hc14 : 1000 ≤ len
        · refine gx_2t (c := .ge) rfl (by first | decide | omega) (by first | decide | omega) hc14 rfl ?_
          refine gx_incC (i := 3) (a := 40) (b := 32) rfl (fun _ => rfl) l1_3 rfl rfl (fun l15 hl15 ml15 => ?_)
          have l15_0 : en_ld l15 0 = some (gx_r 383) := ml15 0 _ l1_0 rfl
          have l15_1 : en_ld l15 1 = some (.inr (.inl v)) := ml15 1 _ l1_1 rfl
          have l15_4 : en_ld l15 4 = some (.inl (sgM v 40)) := ml15 4 _ hl1 rfl
          refine ex_go (S := (3, l15, [], t0, n, 0)) rfl (fun _ => rfl) rfl ?_
          have hq : fd1 len (sgM v 40) = len := fd1_n (by first | decide | omega)
          have hqS : fS1 len S (sgM v 40) = S := fS1_n (by first | decide | omega)
          show en_ex _ _ _ _ _ (fun o => ∃ r, o = .inl r ∧ ∃ t', r = (none, t', n, 0) ∧ ai_HG ah_G t' ∧ ai_hv t' 383 2 = some (.inl (fdv_32 v (fd1 len (sgM v 40)))) ∧ tp t' 384 (fSv_32 v (fd1 len (sgM v 40)) (fS1 len S (sgM v 40))) (fdv_32 v (fd1 len (sgM v 40))) ∧ (∀ c i, ¬ ((c = 383 ∧ i = 2) ∨ c = 384) → ai_hv t' c i = ai_hv tb c i))
          rw [hq, hqS]
          exact fyM_32 _ _ _ t0 (by first | decide | omega) g0 k0 hS (fun c i h => e0 c i h) l15_0 l15_1 hl15
        · refine gx_2f (c := .ge) rfl (by first | decide | omega) (by first | decide | omega) hc14 rfl ?_
          refine gx_ld (i := 0) (d := 2) (v := gx_r 383) rfl (fun _ => rfl) l1_0 rfl rfl ?_
          refine gx_ref (c := 384) rfl g0 rfl rfl rfl rfl ?_
          refine gx_ld (i := 0) (d := 2) (v := gx_r 383) rfl (fun _ => rfl) l1_0 rfl rfl ?_
          refine gx_get rfl g0 rfl k0 rfl ?_
          refine gx_ld (i := 4) (d := 0) (v := .inl (sgM v 40)) rfl (fun _ => rfl) hl1 rfl rfl ?_
          refine gx_ap rfl (fun _ => rfl) g0 rfl rfl rfl (show len < 1000 from by omega) (gx_run1 (show len < 1000 from by omega)) (ai_in_h (by first | decide | omega) (by first | decide | omega) (by first | decide | omega)) rfl (fun t116 g116 k116 e116 => ?_)
          have k17 : ai_hv t116 383 2 = some (.inl len) := (e116 383 2 (by first | decide | omega)).trans k0
          refine gx_ld (i := 0) (d := 2) (v := gx_r 383) rfl (fun _ => rfl) l1_0 rfl rfl ?_
          refine ex_go (S := (61, l1, [gx_r 383, gx_r 383], t116, n, 0)) rfl (fun _ => rfl) rfl ?_
          refine gx_get rfl g116 rfl k17 rfl ?_
          refine ex_go (S := (65, l1, [.inl 1, .inl len, gx_r 383], t116, n, 0)) rfl (fun _ => rfl) rfl ?_
          refine ex_iadd rfl (by first | decide | omega) rfl ?_
          refine gx_put rfl g116 rfl rfl (ai_in_h (by first | decide | omega) (by first | decide | omega) (by first | decide | omega)) rfl (fun t118 g118 k118 e118 => ?_)
          have k19 : ai_hv t118 384 len = some (.inl (sgM v 40)) := (e118 384 len (by first | decide | omega)).trans k116
          refine gx_incC (i := 3) (a := 40) (b := 32) rfl (fun _ => rfl) l1_3 rfl rfl (fun l20 hl20 ml20 => ?_)
          have l20_0 : en_ld l20 0 = some (gx_r 383) := ml20 0 _ l1_0 rfl
          have l20_1 : en_ld l20 1 = some (.inr (.inl v)) := ml20 1 _ l1_1 rfl
          have l20_4 : en_ld l20 4 = some (.inl (sgM v 40)) := ml20 4 _ hl1 rfl
          refine ex_go (S := (3, l20, [], t118, n, 0)) rfl (fun _ => rfl) rfl ?_
          have hq : fd1 len (sgM v 40) = len + 1 := fd1_y (by first | decide | omega) (by first | decide | omega)
          have hqS : fS1 len S (sgM v 40) = nx S len (sgM v 40) := fS1_y (by first | decide | omega) (by first | decide | omega)
          show en_ex _ _ _ _ _ (fun o => ∃ r, o = .inl r ∧ ∃ t', r = (none, t', n, 0) ∧ ai_HG ah_G t' ∧ ai_hv t' 383 2 = some (.inl (fdv_32 v (fd1 len (sgM v 40)))) ∧ tp t' 384 (fSv_32 v (fd1 len (sgM v 40)) (fS1 len S (sgM v 40))) (fdv_32 v (fd1 len (sgM v 40))) ∧ (∀ c i, ¬ ((c = 383 ∧ i = 2) ∨ c = 384) → ai_hv t' c i = ai_hv tb c i))
          rw [hq, hqS]
          exact fyM_32 _ _ _ t118 (by first | decide | omega) g118 k118 (tp_up hS (fun i hi => (e118 384 i (by first | decide | omega)).trans (e116 384 i (by first | decide | omega))) k19 (by first | decide | omega)) (fun c i h => (e118 c i (by first | decide | omega)).trans ((e116 c i (by first | decide | omega)).trans (e0 c i h))) l20_0 l20_1 hl20
theorem fyM_48 {fn : en_F} {n v : Nat} {tb : en_H} (len : Nat) (S : Nat → Nat) (cl : en_L) (t0 : en_H) (hl : len ≤ 1000) (g0 : ai_HG ah_G t0) (k0 : ai_hv t0 383 2 = some (.inl len)) (hS : tp t0 384 S len) (e0 : (∀ c i, ¬ ((c = 383 ∧ i = 2) ∨ c = 384) → ai_hv t0 c i = ai_hv tb c i)) (h0 : en_ld cl 0 = some (gx_r 383)) (h1 : en_ld cl 1 = some (.inr (.inl v))) (h3 : en_ld cl 3 = some (.inl 48)) : en_ex none fn (en_code 91) (fun _ => false) (3, cl, [], t0, n, 0) (fun o => ∃ r, o = .inl r ∧ ∃ t', r = (none, t', n, 0) ∧ ai_HG ah_G t' ∧ ai_hv t' 383 2 = some (.inl (fdv_48 v len)) ∧ tp t' 384 (fSv_48 v len S) (fdv_48 v len) ∧ (∀ c i, ¬ ((c = 383 ∧ i = 2) ∨ c = 384) → ai_hv t' c i = ai_hv tb c i)) := by
  have hg := sgM_le v 48
  refine gx_ld (i := 3) (d := 0) (v := .inl 48) rfl (fun _ => rfl) h3 rfl rfl ?_
  refine ex_go (S := (7, cl, [], t0, n, 0)) rfl (fun _ => rfl) rfl ?_
  refine gx_ld (i := 1) (d := 1) (v := .inr (.inl v)) rfl (fun _ => rfl) h1 rfl rfl ?_
  refine gx_ld (i := 3) (d := 0) (v := .inl 48) rfl (fun _ => rfl) h3 rfl rfl ?_
  refine ex_go (S := (10, cl, [.inr (.inl (en_lshr v 48))], t0, n, 0)) rfl (fun _ => rfl) rfl ?_
  refine ex_go (S := (11, cl, [.inl ((lN (en_lshr v 48)).toInt32.toBitVec.toNat)], t0, n, 0)) rfl (fun _ => rfl) rfl ?_
  refine ex_go (S := (14, cl, [.inl 255, .inl ((lN (en_lshr v 48)).toInt32.toBitVec.toNat)], t0, n, 0)) rfl (fun _ => rfl) rfl ?_
  refine ex_go (S := (15, cl, [.inl ((nI ((lN (en_lshr v 48)).toInt32.toBitVec.toNat) &&& nI 255).toBitVec.toNat)], t0, n, 0)) rfl (fun _ => rfl) rfl ?_
  rw [show (nI ((lN (en_lshr v 48)).toInt32.toBitVec.toNat) &&& nI 255).toBitVec.toNat = sgM v 48 from rfl]
  refine gx_sto (i := 4) (d := 0) rfl (fun _ => rfl) rfl rfl (fun l1 hl1 ml1 => ?_)
  have l1_0 : en_ld l1 0 = some (gx_r 383) := ml1 0 _ h0 rfl
  have l1_1 : en_ld l1 1 = some (.inr (.inl v)) := ml1 1 _ h1 rfl
  have l1_3 : en_ld l1 3 = some (.inl 48) := ml1 3 _ h3 rfl
  refine gx_ld (i := 4) (d := 0) (v := .inl (sgM v 48)) rfl (fun _ => rfl) hl1 rfl rfl ?_
  refine ex_go (S := (21, l1, [.inl 10, .inl (sgM v 48)], t0, n, 0)) rfl (fun _ => rfl) rfl ?_
  by_cases hc2 : sgM v 48 = 10
  · refine gx_2t (c := .eq) rfl (by first | decide | omega) (by first | decide | omega) hc2 rfl ?_
    refine gx_ld (i := 0) (d := 2) (v := gx_r 383) rfl (fun _ => rfl) l1_0 rfl rfl ?_
    refine gx_get rfl g0 rfl k0 rfl ?_
    refine ex_go (S := (45, l1, [.inl 1000, .inl len], t0, n, 0)) rfl (fun _ => rfl) rfl ?_
    by_cases hc3 : 1000 ≤ len
    · refine gx_2t (c := .ge) rfl (by first | decide | omega) (by first | decide | omega) hc3 rfl ?_
      refine gx_incC (i := 3) (a := 48) (b := 40) rfl (fun _ => rfl) l1_3 rfl rfl (fun l4 hl4 ml4 => ?_)
      have l4_0 : en_ld l4 0 = some (gx_r 383) := ml4 0 _ l1_0 rfl
      have l4_1 : en_ld l4 1 = some (.inr (.inl v)) := ml4 1 _ l1_1 rfl
      have l4_4 : en_ld l4 4 = some (.inl (sgM v 48)) := ml4 4 _ hl1 rfl
      refine ex_go (S := (3, l4, [], t0, n, 0)) rfl (fun _ => rfl) rfl ?_
      have hq : fd1 len (sgM v 48) = len := fd1_n (by first | decide | omega)
      have hqS : fS1 len S (sgM v 48) = S := fS1_n (by first | decide | omega)
      show en_ex _ _ _ _ _ (fun o => ∃ r, o = .inl r ∧ ∃ t', r = (none, t', n, 0) ∧ ai_HG ah_G t' ∧ ai_hv t' 383 2 = some (.inl (fdv_40 v (fd1 len (sgM v 48)))) ∧ tp t' 384 (fSv_40 v (fd1 len (sgM v 48)) (fS1 len S (sgM v 48))) (fdv_40 v (fd1 len (sgM v 48))) ∧ (∀ c i, ¬ ((c = 383 ∧ i = 2) ∨ c = 384) → ai_hv t' c i = ai_hv tb c i))
      rw [hq, hqS]
      exact fyM_40 _ _ _ t0 (by first | decide | omega) g0 k0 hS (fun c i h => e0 c i h) l4_0 l4_1 hl4
    · refine gx_2f (c := .ge) rfl (by first | decide | omega) (by first | decide | omega) hc3 rfl ?_
      refine gx_ld (i := 0) (d := 2) (v := gx_r 383) rfl (fun _ => rfl) l1_0 rfl rfl ?_
      refine gx_ref (c := 384) rfl g0 rfl rfl rfl rfl ?_
      refine gx_ld (i := 0) (d := 2) (v := gx_r 383) rfl (fun _ => rfl) l1_0 rfl rfl ?_
      refine gx_get rfl g0 rfl k0 rfl ?_
      refine gx_ld (i := 4) (d := 0) (v := .inl (sgM v 48)) rfl (fun _ => rfl) hl1 rfl rfl ?_
      refine gx_ap rfl (fun _ => rfl) g0 rfl rfl rfl (show len < 1000 from by omega) (gx_run1 (show len < 1000 from by omega)) (ai_in_h (by first | decide | omega) (by first | decide | omega) (by first | decide | omega)) rfl (fun t105 g105 k105 e105 => ?_)
      have k6 : ai_hv t105 383 2 = some (.inl len) := (e105 383 2 (by first | decide | omega)).trans k0
      refine gx_ld (i := 0) (d := 2) (v := gx_r 383) rfl (fun _ => rfl) l1_0 rfl rfl ?_
      refine ex_go (S := (61, l1, [gx_r 383, gx_r 383], t105, n, 0)) rfl (fun _ => rfl) rfl ?_
      refine gx_get rfl g105 rfl k6 rfl ?_
      refine ex_go (S := (65, l1, [.inl 1, .inl len, gx_r 383], t105, n, 0)) rfl (fun _ => rfl) rfl ?_
      refine ex_iadd rfl (by first | decide | omega) rfl ?_
      refine gx_put rfl g105 rfl rfl (ai_in_h (by first | decide | omega) (by first | decide | omega) (by first | decide | omega)) rfl (fun t107 g107 k107 e107 => ?_)
      have k8 : ai_hv t107 384 len = some (.inl (sgM v 48)) := (e107 384 len (by first | decide | omega)).trans k105
      refine gx_incC (i := 3) (a := 48) (b := 40) rfl (fun _ => rfl) l1_3 rfl rfl (fun l9 hl9 ml9 => ?_)
      have l9_0 : en_ld l9 0 = some (gx_r 383) := ml9 0 _ l1_0 rfl
      have l9_1 : en_ld l9 1 = some (.inr (.inl v)) := ml9 1 _ l1_1 rfl
      have l9_4 : en_ld l9 4 = some (.inl (sgM v 48)) := ml9 4 _ hl1 rfl
      refine ex_go (S := (3, l9, [], t107, n, 0)) rfl (fun _ => rfl) rfl ?_
      have hq : fd1 len (sgM v 48) = len + 1 := fd1_y (by first | decide | omega) (by first | decide | omega)
      have hqS : fS1 len S (sgM v 48) = nx S len (sgM v 48) := fS1_y (by first | decide | omega) (by first | decide | omega)
      show en_ex _ _ _ _ _ (fun o => ∃ r, o = .inl r ∧ ∃ t', r = (none, t', n, 0) ∧ ai_HG ah_G t' ∧ ai_hv t' 383 2 = some (.inl (fdv_40 v (fd1 len (sgM v 48)))) ∧ tp t' 384 (fSv_40 v (fd1 len (sgM v 48)) (fS1 len S (sgM v 48))) (fdv_40 v (fd1 len (sgM v 48))) ∧ (∀ c i, ¬ ((c = 383 ∧ i = 2) ∨ c = 384) → ai_hv t' c i = ai_hv tb c i))
      rw [hq, hqS]
      exact fyM_40 _ _ _ t107 (by first | decide | omega) g107 k107 (tp_up hS (fun i hi => (e107 384 i (by first | decide | omega)).trans (e105 384 i (by first | decide | omega))) k8 (by first | decide | omega)) (fun c i h => (e107 c i (by first | decide | omega)).trans ((e105 c i (by first | decide | omega)).trans (e0 c i h))) l9_0 l9_1 hl9
  · refine gx_2f (c := .eq) rfl (by first | decide | omega) (by first | decide | omega) hc2 rfl ?_
    refine gx_ld (i := 4) (d := 0) (v := .inl (sgM v 48)) rfl (fun _ => rfl) hl1 rfl rfl ?_
    refine ex_go (S := (28, l1, [.inl 32, .inl (sgM v 48)], t0, n, 0)) rfl (fun _ => rfl) rfl ?_
    by_cases hc10 : sgM v 48 < 32
    · refine gx_2t (c := .lt) rfl (by first | decide | omega) (by first | decide | omega) hc10 rfl ?_
      refine gx_incC (i := 3) (a := 48) (b := 40) rfl (fun _ => rfl) l1_3 rfl rfl (fun l11 hl11 ml11 => ?_)
      have l11_0 : en_ld l11 0 = some (gx_r 383) := ml11 0 _ l1_0 rfl
      have l11_1 : en_ld l11 1 = some (.inr (.inl v)) := ml11 1 _ l1_1 rfl
      have l11_4 : en_ld l11 4 = some (.inl (sgM v 48)) := ml11 4 _ hl1 rfl
      refine ex_go (S := (3, l11, [], t0, n, 0)) rfl (fun _ => rfl) rfl ?_
      have hq : fd1 len (sgM v 48) = len := fd1_n (by first | decide | omega)
      have hqS : fS1 len S (sgM v 48) = S := fS1_n (by first | decide | omega)
      show en_ex _ _ _ _ _ (fun o => ∃ r, o = .inl r ∧ ∃ t', r = (none, t', n, 0) ∧ ai_HG ah_G t' ∧ ai_hv t' 383 2 = some (.inl (fdv_40 v (fd1 len (sgM v 48)))) ∧ tp t' 384 (fSv_40 v (fd1 len (sgM v 48)) (fS1 len S (sgM v 48))) (fdv_40 v (fd1 len (sgM v 48))) ∧ (∀ c i, ¬ ((c = 383 ∧ i = 2) ∨ c = 384) → ai_hv t' c i = ai_hv tb c i))
      rw [hq, hqS]
      exact fyM_40 _ _ _ t0 (by first | decide | omega) g0 k0 hS (fun c i h => e0 c i h) l11_0 l11_1 hl11
    · refine gx_2f (c := .lt) rfl (by first | decide | omega) (by first | decide | omega) hc10 rfl ?_
      refine gx_ld (i := 4) (d := 0) (v := .inl (sgM v 48)) rfl (fun _ => rfl) hl1 rfl rfl ?_
      refine ex_go (S := (35, l1, [.inl 126, .inl (sgM v 48)], t0, n, 0)) rfl (fun _ => rfl) rfl ?_
      by_cases hc12 : 126 < sgM v 48
      · refine gx_2t (c := .gt) rfl (by first | decide | omega) (by first | decide | omega) hc12 rfl ?_
        refine gx_incC (i := 3) (a := 48) (b := 40) rfl (fun _ => rfl) l1_3 rfl rfl (fun l13 hl13 ml13 => ?_)
        have l13_0 : en_ld l13 0 = some (gx_r 383) := ml13 0 _ l1_0 rfl
        have l13_1 : en_ld l13 1 = some (.inr (.inl v)) := ml13 1 _ l1_1 rfl
        have l13_4 : en_ld l13 4 = some (.inl (sgM v 48)) := ml13 4 _ hl1 rfl
        refine ex_go (S := (3, l13, [], t0, n, 0)) rfl (fun _ => rfl) rfl ?_
        have hq : fd1 len (sgM v 48) = len := fd1_n (by first | decide | omega)
        have hqS : fS1 len S (sgM v 48) = S := fS1_n (by first | decide | omega)
        show en_ex _ _ _ _ _ (fun o => ∃ r, o = .inl r ∧ ∃ t', r = (none, t', n, 0) ∧ ai_HG ah_G t' ∧ ai_hv t' 383 2 = some (.inl (fdv_40 v (fd1 len (sgM v 48)))) ∧ tp t' 384 (fSv_40 v (fd1 len (sgM v 48)) (fS1 len S (sgM v 48))) (fdv_40 v (fd1 len (sgM v 48))) ∧ (∀ c i, ¬ ((c = 383 ∧ i = 2) ∨ c = 384) → ai_hv t' c i = ai_hv tb c i))
        rw [hq, hqS]
        exact fyM_40 _ _ _ t0 (by first | decide | omega) g0 k0 hS (fun c i h => e0 c i h) l13_0 l13_1 hl13
      · refine gx_2f (c := .gt) rfl (by first | decide | omega) (by first | decide | omega) hc12 rfl ?_
        refine gx_ld (i := 0) (d := 2) (v := gx_r 383) rfl (fun _ => rfl) l1_0 rfl rfl ?_
        refine gx_get rfl g0 rfl k0 rfl ?_
        refine ex_go (S := (45, l1, [.inl 1000, .inl len], t0, n, 0)) rfl (fun _ => rfl) rfl ?_
        by_cases hc14 : 1000 ≤ len
        · refine gx_2t (c := .ge) rfl (by first | decide | omega) (by first | decide | omega) hc14 rfl ?_
          refine gx_incC (i := 3) (a := 48) (b := 40) rfl (fun _ => rfl) l1_3 rfl rfl (fun l15 hl15 ml15 => ?_)
          have l15_0 : en_ld l15 0 = some (gx_r 383) := ml15 0 _ l1_0 rfl
          have l15_1 : en_ld l15 1 = some (.inr (.inl v)) := ml15 1 _ l1_1 rfl
          have l15_4 : en_ld l15 4 = some (.inl (sgM v 48)) := ml15 4 _ hl1 rfl
          refine ex_go (S := (3, l15, [], t0, n, 0)) rfl (fun _ => rfl) rfl ?_
          have hq : fd1 len (sgM v 48) = len := fd1_n (by first | decide | omega)
          have hqS : fS1 len S (sgM v 48) = S := fS1_n (by first | decide | omega)
          show en_ex _ _ _ _ _ (fun o => ∃ r, o = .inl r ∧ ∃ t', r = (none, t', n, 0) ∧ ai_HG ah_G t' ∧ ai_hv t' 383 2 = some (.inl (fdv_40 v (fd1 len (sgM v 48)))) ∧ tp t' 384 (fSv_40 v (fd1 len (sgM v 48)) (fS1 len S (sgM v 48))) (fdv_40 v (fd1 len (sgM v 48))) ∧ (∀ c i, ¬ ((c = 383 ∧ i = 2) ∨ c = 384) → ai_hv t' c i = ai_hv tb c i))
          rw [hq, hqS]
          exact fyM_40 _ _ _ t0 (by first | decide | omega) g0 k0 hS (fun c i h => e0 c i h) l15_0 l15_1 hl15
        · refine gx_2f (c := .ge) rfl (by first | decide | omega) (by first | decide | omega) hc14 rfl ?_
          refine gx_ld (i := 0) (d := 2) (v := gx_r 383) rfl (fun _ => rfl) l1_0 rfl rfl ?_
          refine gx_ref (c := 384) rfl g0 rfl rfl rfl rfl ?_
          refine gx_ld (i := 0) (d := 2) (v := gx_r 383) rfl (fun _ => rfl) l1_0 rfl rfl ?_
          refine gx_get rfl g0 rfl k0 rfl ?_
          refine gx_ld (i := 4) (d := 0) (v := .inl (sgM v 48)) rfl (fun _ => rfl) hl1 rfl rfl ?_
          refine gx_ap rfl (fun _ => rfl) g0 rfl rfl rfl (show len < 1000 from by omega) (gx_run1 (show len < 1000 from by omega)) (ai_in_h (by first | decide | omega) (by first | decide | omega) (by first | decide | omega)) rfl (fun t116 g116 k116 e116 => ?_)
          have k17 : ai_hv t116 383 2 = some (.inl len) := (e116 383 2 (by first | decide | omega)).trans k0
          refine gx_ld (i := 0) (d := 2) (v := gx_r 383) rfl (fun _ => rfl) l1_0 rfl rfl ?_
          refine ex_go (S := (61, l1, [gx_r 383, gx_r 383], t116, n, 0)) rfl (fun _ => rfl) rfl ?_
          refine gx_get rfl g116 rfl k17 rfl ?_
          refine ex_go (S := (65, l1, [.inl 1, .inl len, gx_r 383], t116, n, 0)) rfl (fun _ => rfl) rfl ?_
          refine ex_iadd rfl (by first | decide | omega) rfl ?_
          refine gx_put rfl g116 rfl rfl (ai_in_h (by first | decide | omega) (by first | decide | omega) (by first | decide | omega)) rfl (fun t118 g118 k118 e118 => ?_)
          have k19 : ai_hv t118 384 len = some (.inl (sgM v 48)) := (e118 384 len (by first | decide | omega)).trans k116
          refine gx_incC (i := 3) (a := 48) (b := 40) rfl (fun _ => rfl) l1_3 rfl rfl (fun l20 hl20 ml20 => ?_)
          have l20_0 : en_ld l20 0 = some (gx_r 383) := ml20 0 _ l1_0 rfl
          have l20_1 : en_ld l20 1 = some (.inr (.inl v)) := ml20 1 _ l1_1 rfl
          have l20_4 : en_ld l20 4 = some (.inl (sgM v 48)) := ml20 4 _ hl1 rfl
          refine ex_go (S := (3, l20, [], t118, n, 0)) rfl (fun _ => rfl) rfl ?_
          have hq : fd1 len (sgM v 48) = len + 1 := fd1_y (by first | decide | omega) (by first | decide | omega)
          have hqS : fS1 len S (sgM v 48) = nx S len (sgM v 48) := fS1_y (by first | decide | omega) (by first | decide | omega)
          show en_ex _ _ _ _ _ (fun o => ∃ r, o = .inl r ∧ ∃ t', r = (none, t', n, 0) ∧ ai_HG ah_G t' ∧ ai_hv t' 383 2 = some (.inl (fdv_40 v (fd1 len (sgM v 48)))) ∧ tp t' 384 (fSv_40 v (fd1 len (sgM v 48)) (fS1 len S (sgM v 48))) (fdv_40 v (fd1 len (sgM v 48))) ∧ (∀ c i, ¬ ((c = 383 ∧ i = 2) ∨ c = 384) → ai_hv t' c i = ai_hv tb c i))
          rw [hq, hqS]
          exact fyM_40 _ _ _ t118 (by first | decide | omega) g118 k118 (tp_up hS (fun i hi => (e118 384 i (by first | decide | omega)).trans (e116 384 i (by first | decide | omega))) k19 (by first | decide | omega)) (fun c i h => (e118 c i (by first | decide | omega)).trans ((e116 c i (by first | decide | omega)).trans (e0 c i h))) l20_0 l20_1 hl20
theorem fyM_56 {fn : en_F} {n v : Nat} {tb : en_H} (len : Nat) (S : Nat → Nat) (cl : en_L) (t0 : en_H) (hl : len ≤ 1000) (g0 : ai_HG ah_G t0) (k0 : ai_hv t0 383 2 = some (.inl len)) (hS : tp t0 384 S len) (e0 : (∀ c i, ¬ ((c = 383 ∧ i = 2) ∨ c = 384) → ai_hv t0 c i = ai_hv tb c i)) (h0 : en_ld cl 0 = some (gx_r 383)) (h1 : en_ld cl 1 = some (.inr (.inl v))) (h3 : en_ld cl 3 = some (.inl 56)) : en_ex none fn (en_code 91) (fun _ => false) (3, cl, [], t0, n, 0) (fun o => ∃ r, o = .inl r ∧ ∃ t', r = (none, t', n, 0) ∧ ai_HG ah_G t' ∧ ai_hv t' 383 2 = some (.inl (fdv_56 v len)) ∧ tp t' 384 (fSv_56 v len S) (fdv_56 v len) ∧ (∀ c i, ¬ ((c = 383 ∧ i = 2) ∨ c = 384) → ai_hv t' c i = ai_hv tb c i)) := by
  have hg := sgM_le v 56
  refine gx_ld (i := 3) (d := 0) (v := .inl 56) rfl (fun _ => rfl) h3 rfl rfl ?_
  refine ex_go (S := (7, cl, [], t0, n, 0)) rfl (fun _ => rfl) rfl ?_
  refine gx_ld (i := 1) (d := 1) (v := .inr (.inl v)) rfl (fun _ => rfl) h1 rfl rfl ?_
  refine gx_ld (i := 3) (d := 0) (v := .inl 56) rfl (fun _ => rfl) h3 rfl rfl ?_
  refine ex_go (S := (10, cl, [.inr (.inl (en_lshr v 56))], t0, n, 0)) rfl (fun _ => rfl) rfl ?_
  refine ex_go (S := (11, cl, [.inl ((lN (en_lshr v 56)).toInt32.toBitVec.toNat)], t0, n, 0)) rfl (fun _ => rfl) rfl ?_
  refine ex_go (S := (14, cl, [.inl 255, .inl ((lN (en_lshr v 56)).toInt32.toBitVec.toNat)], t0, n, 0)) rfl (fun _ => rfl) rfl ?_
  refine ex_go (S := (15, cl, [.inl ((nI ((lN (en_lshr v 56)).toInt32.toBitVec.toNat) &&& nI 255).toBitVec.toNat)], t0, n, 0)) rfl (fun _ => rfl) rfl ?_
  rw [show (nI ((lN (en_lshr v 56)).toInt32.toBitVec.toNat) &&& nI 255).toBitVec.toNat = sgM v 56 from rfl]
  refine gx_sto (i := 4) (d := 0) rfl (fun _ => rfl) rfl rfl (fun l1 hl1 ml1 => ?_)
  have l1_0 : en_ld l1 0 = some (gx_r 383) := ml1 0 _ h0 rfl
  have l1_1 : en_ld l1 1 = some (.inr (.inl v)) := ml1 1 _ h1 rfl
  have l1_3 : en_ld l1 3 = some (.inl 56) := ml1 3 _ h3 rfl
  refine gx_ld (i := 4) (d := 0) (v := .inl (sgM v 56)) rfl (fun _ => rfl) hl1 rfl rfl ?_
  refine ex_go (S := (21, l1, [.inl 10, .inl (sgM v 56)], t0, n, 0)) rfl (fun _ => rfl) rfl ?_
  by_cases hc2 : sgM v 56 = 10
  · refine gx_2t (c := .eq) rfl (by first | decide | omega) (by first | decide | omega) hc2 rfl ?_
    refine gx_ld (i := 0) (d := 2) (v := gx_r 383) rfl (fun _ => rfl) l1_0 rfl rfl ?_
    refine gx_get rfl g0 rfl k0 rfl ?_
    refine ex_go (S := (45, l1, [.inl 1000, .inl len], t0, n, 0)) rfl (fun _ => rfl) rfl ?_
    by_cases hc3 : 1000 ≤ len
    · refine gx_2t (c := .ge) rfl (by first | decide | omega) (by first | decide | omega) hc3 rfl ?_
      refine gx_incC (i := 3) (a := 56) (b := 48) rfl (fun _ => rfl) l1_3 rfl rfl (fun l4 hl4 ml4 => ?_)
      have l4_0 : en_ld l4 0 = some (gx_r 383) := ml4 0 _ l1_0 rfl
      have l4_1 : en_ld l4 1 = some (.inr (.inl v)) := ml4 1 _ l1_1 rfl
      have l4_4 : en_ld l4 4 = some (.inl (sgM v 56)) := ml4 4 _ hl1 rfl
      refine ex_go (S := (3, l4, [], t0, n, 0)) rfl (fun _ => rfl) rfl ?_
      have hq : fd1 len (sgM v 56) = len := fd1_n (by first | decide | omega)
      have hqS : fS1 len S (sgM v 56) = S := fS1_n (by first | decide | omega)
      show en_ex _ _ _ _ _ (fun o => ∃ r, o = .inl r ∧ ∃ t', r = (none, t', n, 0) ∧ ai_HG ah_G t' ∧ ai_hv t' 383 2 = some (.inl (fdv_48 v (fd1 len (sgM v 56)))) ∧ tp t' 384 (fSv_48 v (fd1 len (sgM v 56)) (fS1 len S (sgM v 56))) (fdv_48 v (fd1 len (sgM v 56))) ∧ (∀ c i, ¬ ((c = 383 ∧ i = 2) ∨ c = 384) → ai_hv t' c i = ai_hv tb c i))
      rw [hq, hqS]
      exact fyM_48 _ _ _ t0 (by first | decide | omega) g0 k0 hS (fun c i h => e0 c i h) l4_0 l4_1 hl4
    · refine gx_2f (c := .ge) rfl (by first | decide | omega) (by first | decide | omega) hc3 rfl ?_
      refine gx_ld (i := 0) (d := 2) (v := gx_r 383) rfl (fun _ => rfl) l1_0 rfl rfl ?_
      refine gx_ref (c := 384) rfl g0 rfl rfl rfl rfl ?_
      refine gx_ld (i := 0) (d := 2) (v := gx_r 383) rfl (fun _ => rfl) l1_0 rfl rfl ?_
      refine gx_get rfl g0 rfl k0 rfl ?_
      refine gx_ld (i := 4) (d := 0) (v := .inl (sgM v 56)) rfl (fun _ => rfl) hl1 rfl rfl ?_
      refine gx_ap rfl (fun _ => rfl) g0 rfl rfl rfl (show len < 1000 from by omega) (gx_run1 (show len < 1000 from by omega)) (ai_in_h (by first | decide | omega) (by first | decide | omega) (by first | decide | omega)) rfl (fun t105 g105 k105 e105 => ?_)
      have k6 : ai_hv t105 383 2 = some (.inl len) := (e105 383 2 (by first | decide | omega)).trans k0
      refine gx_ld (i := 0) (d := 2) (v := gx_r 383) rfl (fun _ => rfl) l1_0 rfl rfl ?_
      refine ex_go (S := (61, l1, [gx_r 383, gx_r 383], t105, n, 0)) rfl (fun _ => rfl) rfl ?_
      refine gx_get rfl g105 rfl k6 rfl ?_
      refine ex_go (S := (65, l1, [.inl 1, .inl len, gx_r 383], t105, n, 0)) rfl (fun _ => rfl) rfl ?_
      refine ex_iadd rfl (by first | decide | omega) rfl ?_
      refine gx_put rfl g105 rfl rfl (ai_in_h (by first | decide | omega) (by first | decide | omega) (by first | decide | omega)) rfl (fun t107 g107 k107 e107 => ?_)
      have k8 : ai_hv t107 384 len = some (.inl (sgM v 56)) := (e107 384 len (by first | decide | omega)).trans k105
      refine gx_incC (i := 3) (a := 56) (b := 48) rfl (fun _ => rfl) l1_3 rfl rfl (fun l9 hl9 ml9 => ?_)
      have l9_0 : en_ld l9 0 = some (gx_r 383) := ml9 0 _ l1_0 rfl
      have l9_1 : en_ld l9 1 = some (.inr (.inl v)) := ml9 1 _ l1_1 rfl
      have l9_4 : en_ld l9 4 = some (.inl (sgM v 56)) := ml9 4 _ hl1 rfl
      refine ex_go (S := (3, l9, [], t107, n, 0)) rfl (fun _ => rfl) rfl ?_
      have hq : fd1 len (sgM v 56) = len + 1 := fd1_y (by first | decide | omega) (by first | decide | omega)
      have hqS : fS1 len S (sgM v 56) = nx S len (sgM v 56) := fS1_y (by first | decide | omega) (by first | decide | omega)
      show en_ex _ _ _ _ _ (fun o => ∃ r, o = .inl r ∧ ∃ t', r = (none, t', n, 0) ∧ ai_HG ah_G t' ∧ ai_hv t' 383 2 = some (.inl (fdv_48 v (fd1 len (sgM v 56)))) ∧ tp t' 384 (fSv_48 v (fd1 len (sgM v 56)) (fS1 len S (sgM v 56))) (fdv_48 v (fd1 len (sgM v 56))) ∧ (∀ c i, ¬ ((c = 383 ∧ i = 2) ∨ c = 384) → ai_hv t' c i = ai_hv tb c i))
      rw [hq, hqS]
      exact fyM_48 _ _ _ t107 (by first | decide | omega) g107 k107 (tp_up hS (fun i hi => (e107 384 i (by first | decide | omega)).trans (e105 384 i (by first | decide | omega))) k8 (by first | decide | omega)) (fun c i h => (e107 c i (by first | decide | omega)).trans ((e105 c i (by first | decide | omega)).trans (e0 c i h))) l9_0 l9_1 hl9
  · refine gx_2f (c := .eq) rfl (by first | decide | omega) (by first | decide | omega) hc2 rfl ?_
    refine gx_ld (i := 4) (d := 0) (v := .inl (sgM v 56)) rfl (fun _ => rfl) hl1 rfl rfl ?_
    refine ex_go (S := (28, l1, [.inl 32, .inl (sgM v 56)], t0, n, 0)) rfl (fun _ => rfl) rfl ?_
    by_cases hc10 : sgM v 56 < 32
    · refine gx_2t (c := .lt) rfl (by first | decide | omega) (by first | decide | omega) hc10 rfl ?_
      refine gx_incC (i := 3) (a := 56) (b := 48) rfl (fun _ => rfl) l1_3 rfl rfl (fun l11 hl11 ml11 => ?_)
      have l11_0 : en_ld l11 0 = some (gx_r 383) := ml11 0 _ l1_0 rfl
      have l11_1 : en_ld l11 1 = some (.inr (.inl v)) := ml11 1 _ l1_1 rfl
      have l11_4 : en_ld l11 4 = some (.inl (sgM v 56)) := ml11 4 _ hl1 rfl
      refine ex_go (S := (3, l11, [], t0, n, 0)) rfl (fun _ => rfl) rfl ?_
      have hq : fd1 len (sgM v 56) = len := fd1_n (by first | decide | omega)
      have hqS : fS1 len S (sgM v 56) = S := fS1_n (by first | decide | omega)
      show en_ex _ _ _ _ _ (fun o => ∃ r, o = .inl r ∧ ∃ t', r = (none, t', n, 0) ∧ ai_HG ah_G t' ∧ ai_hv t' 383 2 = some (.inl (fdv_48 v (fd1 len (sgM v 56)))) ∧ tp t' 384 (fSv_48 v (fd1 len (sgM v 56)) (fS1 len S (sgM v 56))) (fdv_48 v (fd1 len (sgM v 56))) ∧ (∀ c i, ¬ ((c = 383 ∧ i = 2) ∨ c = 384) → ai_hv t' c i = ai_hv tb c i))
      rw [hq, hqS]
      exact fyM_48 _ _ _ t0 (by first | decide | omega) g0 k0 hS (fun c i h => e0 c i h) l11_0 l11_1 hl11
    · refine gx_2f (c := .lt) rfl (by first | decide | omega) (by first | decide | omega) hc10 rfl ?_
      refine gx_ld (i := 4) (d := 0) (v := .inl (sgM v 56)) rfl (fun _ => rfl) hl1 rfl rfl ?_
      refine ex_go (S := (35, l1, [.inl 126, .inl (sgM v 56)], t0, n, 0)) rfl (fun _ => rfl) rfl ?_
      by_cases hc12 : 126 < sgM v 56
      · refine gx_2t (c := .gt) rfl (by first | decide | omega) (by first | decide | omega) hc12 rfl ?_
        refine gx_incC (i := 3) (a := 56) (b := 48) rfl (fun _ => rfl) l1_3 rfl rfl (fun l13 hl13 ml13 => ?_)
        have l13_0 : en_ld l13 0 = some (gx_r 383) := ml13 0 _ l1_0 rfl
        have l13_1 : en_ld l13 1 = some (.inr (.inl v)) := ml13 1 _ l1_1 rfl
        have l13_4 : en_ld l13 4 = some (.inl (sgM v 56)) := ml13 4 _ hl1 rfl
        refine ex_go (S := (3, l13, [], t0, n, 0)) rfl (fun _ => rfl) rfl ?_
        have hq : fd1 len (sgM v 56) = len := fd1_n (by first | decide | omega)
        have hqS : fS1 len S (sgM v 56) = S := fS1_n (by first | decide | omega)
        show en_ex _ _ _ _ _ (fun o => ∃ r, o = .inl r ∧ ∃ t', r = (none, t', n, 0) ∧ ai_HG ah_G t' ∧ ai_hv t' 383 2 = some (.inl (fdv_48 v (fd1 len (sgM v 56)))) ∧ tp t' 384 (fSv_48 v (fd1 len (sgM v 56)) (fS1 len S (sgM v 56))) (fdv_48 v (fd1 len (sgM v 56))) ∧ (∀ c i, ¬ ((c = 383 ∧ i = 2) ∨ c = 384) → ai_hv t' c i = ai_hv tb c i))
        rw [hq, hqS]
        exact fyM_48 _ _ _ t0 (by first | decide | omega) g0 k0 hS (fun c i h => e0 c i h) l13_0 l13_1 hl13
      · refine gx_2f (c := .gt) rfl (by first | decide | omega) (by first | decide | omega) hc12 rfl ?_
        refine gx_ld (i := 0) (d := 2) (v := gx_r 383) rfl (fun _ => rfl) l1_0 rfl rfl ?_
        refine gx_get rfl g0 rfl k0 rfl ?_
        refine ex_go (S := (45, l1, [.inl 1000, .inl len], t0, n, 0)) rfl (fun _ => rfl) rfl ?_
        by_cases hc14 : 1000 ≤ len
        · refine gx_2t (c := .ge) rfl (by first | decide | omega) (by first | decide | omega) hc14 rfl ?_
          refine gx_incC (i := 3) (a := 56) (b := 48) rfl (fun _ => rfl) l1_3 rfl rfl (fun l15 hl15 ml15 => ?_)
          have l15_0 : en_ld l15 0 = some (gx_r 383) := ml15 0 _ l1_0 rfl
          have l15_1 : en_ld l15 1 = some (.inr (.inl v)) := ml15 1 _ l1_1 rfl
          have l15_4 : en_ld l15 4 = some (.inl (sgM v 56)) := ml15 4 _ hl1 rfl
          refine ex_go (S := (3, l15, [], t0, n, 0)) rfl (fun _ => rfl) rfl ?_
          have hq : fd1 len (sgM v 56) = len := fd1_n (by first | decide | omega)
          have hqS : fS1 len S (sgM v 56) = S := fS1_n (by first | decide | omega)
          show en_ex _ _ _ _ _ (fun o => ∃ r, o = .inl r ∧ ∃ t', r = (none, t', n, 0) ∧ ai_HG ah_G t' ∧ ai_hv t' 383 2 = some (.inl (fdv_48 v (fd1 len (sgM v 56)))) ∧ tp t' 384 (fSv_48 v (fd1 len (sgM v 56)) (fS1 len S (sgM v 56))) (fdv_48 v (fd1 len (sgM v 56))) ∧ (∀ c i, ¬ ((c = 383 ∧ i = 2) ∨ c = 384) → ai_hv t' c i = ai_hv tb c i))
          rw [hq, hqS]
          exact fyM_48 _ _ _ t0 (by first | decide | omega) g0 k0 hS (fun c i h => e0 c i h) l15_0 l15_1 hl15
        · refine gx_2f (c := .ge) rfl (by first | decide | omega) (by first | decide | omega) hc14 rfl ?_
          refine gx_ld (i := 0) (d := 2) (v := gx_r 383) rfl (fun _ => rfl) l1_0 rfl rfl ?_
          refine gx_ref (c := 384) rfl g0 rfl rfl rfl rfl ?_
          refine gx_ld (i := 0) (d := 2) (v := gx_r 383) rfl (fun _ => rfl) l1_0 rfl rfl ?_
          refine gx_get rfl g0 rfl k0 rfl ?_
          refine gx_ld (i := 4) (d := 0) (v := .inl (sgM v 56)) rfl (fun _ => rfl) hl1 rfl rfl ?_
          refine gx_ap rfl (fun _ => rfl) g0 rfl rfl rfl (show len < 1000 from by omega) (gx_run1 (show len < 1000 from by omega)) (ai_in_h (by first | decide | omega) (by first | decide | omega) (by first | decide | omega)) rfl (fun t116 g116 k116 e116 => ?_)
          have k17 : ai_hv t116 383 2 = some (.inl len) := (e116 383 2 (by first | decide | omega)).trans k0
          refine gx_ld (i := 0) (d := 2) (v := gx_r 383) rfl (fun _ => rfl) l1_0 rfl rfl ?_
          refine ex_go (S := (61, l1, [gx_r 383, gx_r 383], t116, n, 0)) rfl (fun _ => rfl) rfl ?_
          refine gx_get rfl g116 rfl k17 rfl ?_
          refine ex_go (S := (65, l1, [.inl 1, .inl len, gx_r 383], t116, n, 0)) rfl (fun _ => rfl) rfl ?_
          refine ex_iadd rfl (by first | decide | omega) rfl ?_
          refine gx_put rfl g116 rfl rfl (ai_in_h (by first | decide | omega) (by first | decide | omega) (by first | decide | omega)) rfl (fun t118 g118 k118 e118 => ?_)
          have k19 : ai_hv t118 384 len = some (.inl (sgM v 56)) := (e118 384 len (by first | decide | omega)).trans k116
          refine gx_incC (i := 3) (a := 56) (b := 48) rfl (fun _ => rfl) l1_3 rfl rfl (fun l20 hl20 ml20 => ?_)
          have l20_0 : en_ld l20 0 = some (gx_r 383) := ml20 0 _ l1_0 rfl
          have l20_1 : en_ld l20 1 = some (.inr (.inl v)) := ml20 1 _ l1_1 rfl
          have l20_4 : en_ld l20 4 = some (.inl (sgM v 56)) := ml20 4 _ hl1 rfl
          refine ex_go (S := (3, l20, [], t118, n, 0)) rfl (fun _ => rfl) rfl ?_
          have hq : fd1 len (sgM v 56) = len + 1 := fd1_y (by first | decide | omega) (by first | decide | omega)
          have hqS : fS1 len S (sgM v 56) = nx S len (sgM v 56) := fS1_y (by first | decide | omega) (by first | decide | omega)
          show en_ex _ _ _ _ _ (fun o => ∃ r, o = .inl r ∧ ∃ t', r = (none, t', n, 0) ∧ ai_HG ah_G t' ∧ ai_hv t' 383 2 = some (.inl (fdv_48 v (fd1 len (sgM v 56)))) ∧ tp t' 384 (fSv_48 v (fd1 len (sgM v 56)) (fS1 len S (sgM v 56))) (fdv_48 v (fd1 len (sgM v 56))) ∧ (∀ c i, ¬ ((c = 383 ∧ i = 2) ∨ c = 384) → ai_hv t' c i = ai_hv tb c i))
          rw [hq, hqS]
          exact fyM_48 _ _ _ t118 (by first | decide | omega) g118 k118 (tp_up hS (fun i hi => (e118 384 i (by first | decide | omega)).trans (e116 384 i (by first | decide | omega))) k19 (by first | decide | omega)) (fun c i h => (e118 c i (by first | decide | omega)).trans ((e116 c i (by first | decide | omega)).trans (e0 c i h))) l20_0 l20_1 hl20
theorem pq_lay (d n : Nat) {v len : Nat} {S : Nat → Nat} {tb : en_H} (g0 : ai_HG ah_G tb) (hl : len ≤ 1000) (k0 : ai_hv tb 383 2 = some (.inl len)) (hS : tp tb 384 S len) : ∃ r, en_u (d + 1) 91 [gx_r 383, .inr (.inl v)] tb n = some r ∧ ∃ t', r = (none, t', n, 0) ∧ ai_HG ah_G t' ∧ ai_hv t' 383 2 = some (.inl (fdv_56 v len)) ∧ tp t' 384 (fSv_56 v len S) (fdv_56 v len) ∧ (∀ c i, ¬ ((c = 383 ∧ i = 2) ∨ c = 384) → ai_hv t' c i = ai_hv tb c i) := by
  refine en_u_ex rfl ?_
  show en_ex _ _ _ _ (0, [(0, gx_r 383), (1, .inr (.inl v))], [], tb, n, 0) _
  refine ex_go (S := (2, [(0, gx_r 383), (1, .inr (.inl v))], [.inl 56], tb, n, 0)) rfl (fun _ => rfl) rfl ?_
  refine ex_go (S := (3, [(3, .inl 56), (0, gx_r 383), (1, .inr (.inl v))], [], tb, n, 0)) rfl (fun _ => rfl) rfl ?_
  exact fyM_56 len S _ tb hl g0 k0 hS (fun c i h => rfl) rfl rfl rfl
theorem pq_feedM (d n : Nat) {u v w len : Nat} {S : Nat → Nat} {t0 : en_H} (g0 : ai_HG ah_G t0) (hl : len ≤ 1000) (k0 : ai_hv t0 383 2 = some (.inl len)) (hS : tp t0 384 S len) : ∃ r, en_u (d + 2) 31 [gx_r 383, .inr (.inl u), .inr (.inl v), .inr (.inl w)] t0 n = some r ∧ ∃ t', r = (some (.inl (fdv_56 w (fdv_56 v (fdv_56 u len)))), t', n, 0) ∧ ai_HG ah_G t' ∧ ai_hv t' 383 2 = some (.inl (fdv_56 w (fdv_56 v (fdv_56 u len)))) ∧ tp t' 384 (fSv_56 w (fdv_56 v (fdv_56 u len)) (fSv_56 v (fdv_56 u len) (fSv_56 u len S))) (fdv_56 w (fdv_56 v (fdv_56 u len))) ∧ (∀ c i, ¬ ((c = 383 ∧ (i = 0 ∨ i = 2)) ∨ c = 384) → ai_hv t' c i = ai_hv t0 c i) := by
  have l1 := fdv_le u hl
  have l2 := fdv_le v l1
  have l3 := fdv_le w l2
  refine en_u_ex (d := d + 1) rfl ?_
  show en_ex _ _ _ _ (0, [(0, gx_r 383), (1, .inr (.inl u)), (3, .inr (.inl v)), (5, .inr (.inl w))], [], t0, n, 0) _
  refine ex_go (S := (1, [(0, gx_r 383), (1, .inr (.inl u)), (3, .inr (.inl v)), (5, .inr (.inl w))], [gx_r 383], t0, n, 0)) rfl (fun _ => rfl) rfl ?_
  refine ex_go (S := (2, [(0, gx_r 383), (1, .inr (.inl u)), (3, .inr (.inl v)), (5, .inr (.inl w))], [.inl 0, gx_r 383], t0, n, 0)) rfl (fun _ => rfl) rfl ?_
  refine gx_put rfl g0 rfl rfl (ai_in_h (by first | decide | omega) (by first | decide | omega) (by first | decide | omega)) rfl (fun t101 g101 k101 e101 => ?_)
  have k2 : ai_hv t101 383 2 = some (.inl len) := (e101 383 2 (by first | decide | omega)).trans k0
  refine ex_go (S := (6, [(0, gx_r 383), (1, .inr (.inl u)), (3, .inr (.inl v)), (5, .inr (.inl w))], [gx_r 383], t101, n, 0)) rfl (fun _ => rfl) rfl ?_
  refine ex_go (S := (7, [(0, gx_r 383), (1, .inr (.inl u)), (3, .inr (.inl v)), (5, .inr (.inl w))], [.inr (.inl u), gx_r 383], t101, n, 0)) rfl (fun _ => rfl) rfl ?_
  obtain ⟨_, r103, t103, rfl, g103, k103, p103, e103⟩ := pq_lay d n (v := u) g101 hl k2 (tp_keep hS (fun i => e101 384 i (by first | decide | omega)))
  refine gx_callo (a := 383) rfl rfl g101 rfl rfl rfl r103 rfl ?_
  show en_ex _ _ _ _ (10, [(0, gx_r 383), (1, .inr (.inl u)), (3, .inr (.inl v)), (5, .inr (.inl w))], [], t103, n, 0) _
  refine ex_go (S := (11, [(0, gx_r 383), (1, .inr (.inl u)), (3, .inr (.inl v)), (5, .inr (.inl w))], [gx_r 383], t103, n, 0)) rfl (fun _ => rfl) rfl ?_
  refine ex_go (S := (12, [(0, gx_r 383), (1, .inr (.inl u)), (3, .inr (.inl v)), (5, .inr (.inl w))], [.inr (.inl v), gx_r 383], t103, n, 0)) rfl (fun _ => rfl) rfl ?_
  obtain ⟨_, r104, t104, rfl, g104, k104, p104, e104⟩ := pq_lay d n (v := v) g103 l1 k103 p103
  refine gx_callo (a := 383) rfl rfl g103 rfl rfl rfl r104 rfl ?_
  show en_ex _ _ _ _ (15, [(0, gx_r 383), (1, .inr (.inl u)), (3, .inr (.inl v)), (5, .inr (.inl w))], [], t104, n, 0) _
  refine ex_go (S := (16, [(0, gx_r 383), (1, .inr (.inl u)), (3, .inr (.inl v)), (5, .inr (.inl w))], [gx_r 383], t104, n, 0)) rfl (fun _ => rfl) rfl ?_
  refine ex_go (S := (18, [(0, gx_r 383), (1, .inr (.inl u)), (3, .inr (.inl v)), (5, .inr (.inl w))], [.inr (.inl w), gx_r 383], t104, n, 0)) rfl (fun _ => rfl) rfl ?_
  obtain ⟨_, r105, t105, rfl, g105, k105, p105, e105⟩ := pq_lay d n (v := w) g104 l2 k104 p104
  refine gx_callo (a := 383) rfl rfl g104 rfl rfl rfl r105 rfl ?_
  show en_ex _ _ _ _ (21, [(0, gx_r 383), (1, .inr (.inl u)), (3, .inr (.inl v)), (5, .inr (.inl w))], [], t105, n, 0) _
  refine ex_go (S := (22, [(0, gx_r 383), (1, .inr (.inl u)), (3, .inr (.inl v)), (5, .inr (.inl w))], [gx_r 383], t105, n, 0)) rfl (fun _ => rfl) rfl ?_
  refine gx_get rfl g105 rfl k105 rfl ?_
  refine ex_ret (r := (some (.inl (fdv_56 w (fdv_56 v (fdv_56 u len)))), t105, n, 0)) rfl (fun _ => rfl) ?_
  exact ⟨_, rfl, t105, rfl, g105, k105, p105, (fun c i h => (e105 c i (by first | decide | omega)).trans ((e104 c i (by first | decide | omega)).trans ((e103 c i (by first | decide | omega)).trans (e101 c i (by first | decide | omega)))))⟩
end SPZ
