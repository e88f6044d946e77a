section SPF
variable {oc : Option (List en_V)} {f : en_F} {code : Nat → Option en_I} {stop : Nat → Bool} {P : en_O → Prop}
variable {pc nx : Nat} {ls : en_L} {st : List en_V} {t : en_H} {n sl : Nat}
theorem gx_alen {x1 x2 a m : Nat} {g : ai_g} (hc : code pc = some (.arraylength, nx, x1, x2)) (hG : ai_HG ah_G t) (hg : ah_G a = some g) (hk : (g.1 && (Nat.blt g.2.1 8 && Nat.beq g.2.2.1 m)) = true) (hp : stop nx = false) (h : en_ex oc f code stop (nx, ls, .inl m :: st, t, n, sl) P) : en_ex oc f code stop (pc, ls, gx_r a :: st, t, n, sl) P := by
  obtain ⟨vs, h1, h2, -⟩ := hG a g hg
  simp only [Bool.and_eq_true] at hk
  obtain ⟨k1, k2, k3⟩ := hk
  have k3 := Nat.eq_of_beq_eq_true k3
  rw [gx_mk k1] at h1
  refine ex_go (S := (nx, ls, .inl m :: st, t, n, sl)) hc (fun k => ?_) hp h
  show (match en_get t a with
    | some (.inl q) => bif Nat.blt q.1 8 then k nx ls (.inl (en_len q.2) :: st) t n sl else none
    | _ => none) = _
  rw [h1]
  dsimp only
  rw [k2, en_len_eq, h2, k3]
  rfl
theorem wd_fit {t : en_H} {w : Nat} (h : w < 42) : en_afit t 3 4 (gx_w w) = true := by
  show (Nat.beq 4 4 && (Nat.ble 2 (w + 2) && Nat.ble (w + 2) 43)) = true
  rw [Nat.ble_eq_true_of_le (show 2 ≤ w + 2 by omega), Nat.ble_eq_true_of_le (show w + 2 ≤ 43 by omega)]
  rfl
theorem wd_rh0 : ai_rh (.inr (.inr [0, 1])) (.inr (.inr (.inl none))) := ⟨0, List.mem_cons_self, Or.inl ⟨rfl, rfl⟩⟩
theorem wd_rh1 {w : Nat} (h : w < 42) : ai_rh (.inr (.inr [0, 1])) (gx_w w) := ⟨1, List.mem_cons_of_mem _ List.mem_cons_self, Or.inr (Or.inl ⟨rfl, w, h, rfl⟩)⟩
theorem pk_addToken (d n : Nat) {t0 : en_H} {q ty p v : Nat} (g0 : ai_HG ah_G t0) (hq : q ≤ 1000) (hty : ty ≤ 4) (hp : p ≤ 1000) (k0 : ai_hv t0 1 7 = some (.inl q)) : ∃ r, en_u (d + 2) 224 [gx_r 1, .inl ty, .inl p, .inr (.inl v)] t0 n = some r ∧ ∃ t', r = (none, t', n, 0) ∧ ai_HG ah_G t' ∧ (∀ c i, ¬ ((c = 1 ∧ i = 7) ∨ ((c = 3 ∨ c = 4 ∨ c = 5 ∨ c = 6) ∧ i = q)) → ai_hv t' c i = ai_hv t0 c i) ∧ ai_hv t' 1 7 = some (.inl (q + 1)) ∧ ai_hv t' 3 q = some (.inl ty) ∧ ai_hv t' 4 q = some (.inl p) ∧ ai_hv t' 5 q = some (.inr (.inl v)) ∧ ∃ wv, ai_hv t' 6 q = some wv ∧ ((ty = 2 ∧ ok_P v wv) ∨ (ty ≠ 2 ∧ wv = .inr (.inr (.inl none)))) := by
  refine en_u_ex (d := d + 1) rfl ?_
  show en_ex _ _ _ _ (0, [(0, gx_r 1), (1, .inl ty), (2, .inl p), (3, .inr (.inl v))], [], t0, n, 0) _
  refine ex_go (S := (1, [(0, gx_r 1), (1, .inl ty), (2, .inl p), (3, .inr (.inl v))], [gx_r 1], t0, n, 0)) rfl (fun _ => rfl) rfl ?_
  refine gxo_get (a := 1) rfl g0 rfl rfl k0 rfl ?_
  refine ex_go (S := (5, [(0, gx_r 1), (1, .inl ty), (2, .inl p), (3, .inr (.inl v))], [gx_r 1, .inl q], t0, n, 0)) rfl (fun _ => rfl) rfl ?_
  refine gxo_ref (a := 1) (c := 3) rfl g0 rfl rfl rfl rfl rfl ?_
  refine gx_alen (a := 3) (m := 1001) rfl g0 rfl rfl rfl ?_
  refine gx_2f (c := .ge) rfl (by first | decide | omega) (by first | decide | omega) (show ¬ (1001 ≤ q) from by omega) rfl ?_
  refine ex_go (S := (13, [(0, gx_r 1), (1, .inl ty), (2, .inl p), (3, .inr (.inl v))], [gx_r 1], t0, n, 0)) rfl (fun _ => rfl) rfl ?_
  refine gxo_ref (a := 1) (c := 3) rfl g0 rfl rfl rfl rfl rfl ?_
  refine ex_go (S := (17, [(0, gx_r 1), (1, .inl ty), (2, .inl p), (3, .inr (.inl v))], [gx_r 1, gx_r 3], t0, n, 0)) rfl (fun _ => rfl) rfl ?_
  refine gxo_get (a := 1) rfl g0 rfl rfl k0 rfl ?_
  refine ex_go (S := (21, [(0, gx_r 1), (1, .inl ty), (2, .inl p), (3, .inr (.inl v))], [.inl ty, .inl q, gx_r 3], t0, n, 0)) rfl (fun _ => rfl) rfl ?_
  refine gx_ap rfl (fun _ => rfl) g0 rfl rfl rfl (show q < 1001 from by omega) (gx_run1 (show q < 1001 from by omega)) (ai_in_h (by first | decide | omega) (by first | decide | omega) (by first | decide | omega)) rfl (fun t101 g101 k101 e101 => ?_)
  have k2 : ai_hv t101 1 7 = some (.inl q) := (e101 1 7 (by first | decide | omega)).trans k0
  refine ex_go (S := (23, [(0, gx_r 1), (1, .inl ty), (2, .inl p), (3, .inr (.inl v))], [gx_r 1], t101, n, 0)) rfl (fun _ => rfl) rfl ?_
  refine gxo_ref (a := 1) (c := 4) rfl g101 rfl rfl rfl rfl rfl ?_
  refine ex_go (S := (27, [(0, gx_r 1), (1, .inl ty), (2, .inl p), (3, .inr (.inl v))], [gx_r 1, gx_r 4], t101, n, 0)) rfl (fun _ => rfl) rfl ?_
  refine gxo_get (a := 1) rfl g101 rfl rfl k2 rfl ?_
  refine ex_go (S := (31, [(0, gx_r 1), (1, .inl ty), (2, .inl p), (3, .inr (.inl v))], [.inl p, .inl q, gx_r 4], t101, n, 0)) rfl (fun _ => rfl) rfl ?_
  refine gx_ap rfl (fun _ => rfl) g101 rfl rfl rfl (show q < 1001 from by omega) (gx_run1 (show q < 1001 from by omega)) (ai_in_h (by first | decide | omega) (by first | decide | omega) (by first | decide | omega)) rfl (fun t103 g103 k103 e103 => ?_)
  have k4 : ai_hv t103 1 7 = some (.inl q) := (e103 1 7 (by first | decide | omega)).trans k2
  have k5 : ai_hv t103 3 q = some (.inl ty) := (e103 3 q (by first | decide | omega)).trans k101
  refine ex_go (S := (33, [(0, gx_r 1), (1, .inl ty), (2, .inl p), (3, .inr (.inl v))], [gx_r 1], t103, n, 0)) rfl (fun _ => rfl) rfl ?_
  refine gxo_ref (a := 1) (c := 5) rfl g103 rfl rfl rfl rfl rfl ?_
  refine ex_go (S := (37, [(0, gx_r 1), (1, .inl ty), (2, .inl p), (3, .inr (.inl v))], [gx_r 1, gx_r 5], t103, n, 0)) rfl (fun _ => rfl) rfl ?_
  refine gxo_get (a := 1) rfl g103 rfl rfl k4 rfl ?_
  refine ex_go (S := (41, [(0, gx_r 1), (1, .inl ty), (2, .inl p), (3, .inr (.inl v))], [.inr (.inl v), .inl q, gx_r 5], t103, n, 0)) rfl (fun _ => rfl) rfl ?_
  refine gx_apv (d := 1) rfl (fun _ => rfl) g103 rfl rfl rfl (show q < 1001 from by omega) (gx_run1 (show q < 1001 from by omega)) ⟨_, rfl⟩ rfl (fun t106 g106 k106 e106 => ?_)
  have k7 : ai_hv t106 1 7 = some (.inl q) := (e106 1 7 (by first | decide | omega)).trans k4
  have k8 : ai_hv t106 3 q = some (.inl ty) := (e106 3 q (by first | decide | omega)).trans k5
  have k9 : ai_hv t106 4 q = some (.inl p) := (e106 4 q (by first | decide | omega)).trans k103
  refine ex_go (S := (43, [(0, gx_r 1), (1, .inl ty), (2, .inl p), (3, .inr (.inl v))], [gx_r 1], t106, n, 0)) rfl (fun _ => rfl) rfl ?_
  refine gxo_ref (a := 1) (c := 6) rfl g106 rfl rfl rfl rfl rfl ?_
  refine ex_go (S := (47, [(0, gx_r 1), (1, .inl ty), (2, .inl p), (3, .inr (.inl v))], [gx_r 1, gx_r 6], t106, n, 0)) rfl (fun _ => rfl) rfl ?_
  refine gxo_get (a := 1) rfl g106 rfl rfl k7 rfl ?_
  refine ex_go (S := (51, [(0, gx_r 1), (1, .inl ty), (2, .inl p), (3, .inr (.inl v))], [.inl ty, .inl q, gx_r 6], t106, n, 0)) rfl (fun _ => rfl) rfl ?_
  refine ex_go (S := (52, [(0, gx_r 1), (1, .inl ty), (2, .inl p), (3, .inr (.inl v))], [.inl 2, .inl ty, .inl q, gx_r 6], t106, n, 0)) rfl (fun _ => rfl) rfl ?_
  by_cases hc10 : ty ≠ 2
  · refine gx_2t (c := .ne) rfl (by first | decide | omega) (by first | decide | omega) hc10 rfl ?_
    refine ex_go (S := (63, [(0, gx_r 1), (1, .inl ty), (2, .inl p), (3, .inr (.inl v))], [.inr (.inr (.inl none)), .inl q, gx_r 6], t106, n, 0)) rfl (fun _ => rfl) rfl ?_
    refine gx_apv (d := 3) rfl (fun _ => rfl) g106 rfl rfl rfl (show q < 1001 from by omega) (gx_run1 (show q < 1001 from by omega)) wd_rh0 rfl (fun t111 g111 k111 e111 => ?_)
    have k12 : ai_hv t111 1 7 = some (.inl q) := (e111 1 7 (by first | decide | omega)).trans k7
    have k13 : ai_hv t111 3 q = some (.inl ty) := (e111 3 q (by first | decide | omega)).trans k8
    have k14 : ai_hv t111 4 q = some (.inl p) := (e111 4 q (by first | decide | omega)).trans k9
    have k15 : ai_hv t111 5 q = some (.inr (.inl v)) := (e111 5 q (by first | decide | omega)).trans k106
    refine ex_go (S := (65, [(0, gx_r 1), (1, .inl ty), (2, .inl p), (3, .inr (.inl v))], [gx_r 1], t111, n, 0)) rfl (fun _ => rfl) rfl ?_
    refine ex_go (S := (66, [(0, gx_r 1), (1, .inl ty), (2, .inl p), (3, .inr (.inl v))], [gx_r 1, gx_r 1], t111, n, 0)) rfl (fun _ => rfl) rfl ?_
    refine gxo_get (a := 1) rfl g111 rfl rfl k12 rfl ?_
    refine ex_go (S := (70, [(0, gx_r 1), (1, .inl ty), (2, .inl p), (3, .inr (.inl v))], [.inl 1, .inl q, gx_r 1], t111, n, 0)) rfl (fun _ => rfl) rfl ?_
    refine ex_iadd rfl (by first | decide | omega) rfl ?_
    refine gxo_put (a := 1) rfl g111 rfl rfl rfl (ai_in_h (by first | decide | omega) (by first | decide | omega) (by first | decide | omega)) rfl (fun t116 g116 k116 e116 => ?_)
    have k17 : ai_hv t116 3 q = some (.inl ty) := (e116 3 q (by first | decide | omega)).trans k13
    have k18 : ai_hv t116 4 q = some (.inl p) := (e116 4 q (by first | decide | omega)).trans k14
    have k19 : ai_hv t116 5 q = some (.inr (.inl v)) := (e116 5 q (by first | decide | omega)).trans k15
    have k20 : ai_hv t116 6 q = some (.inr (.inr (.inl none))) := (e116 6 q (by first | decide | omega)).trans k111
    refine ex_ret (r := (none, t116, n, 0)) rfl (fun _ => rfl) ?_
    exact ⟨_, rfl, t116, rfl, g116, (fun c i h => (e116 c i (by first | decide | omega)).trans ((e111 c i (by first | decide | omega)).trans ((e106 c i (by first | decide | omega)).trans ((e103 c i (by first | decide | omega)).trans (e101 c i (by first | decide | omega)))))), k116, k17, k18, k19, _, k20, Or.inr ⟨by omega, rfl⟩⟩
  · refine gx_2f (c := .ne) rfl (by first | decide | omega) (by first | decide | omega) hc10 rfl ?_
    refine ex_go (S := (56, [(0, gx_r 1), (1, .inl ty), (2, .inl p), (3, .inr (.inl v))], [.inr (.inl v), .inl q, gx_r 6], t106, n, 0)) rfl (fun _ => rfl) rfl ?_
    obtain ⟨_, r21, wv22, rfl, q23⟩ := pk_ofKey d n (t0 := t106) (key := v)
    refine ex_stat rfl rfl rfl rfl rfl r21 (Nat.le_refl _) rfl ?_
    show en_ex _ _ _ _ (59, [(0, gx_r 1), (1, .inl ty), (2, .inl p), (3, .inr (.inl v))], [wv22, .inl q, gx_r 6], t106, n, 0) _
    have ho24 := q23
    rcases q23 with ⟨rfl, ho24n⟩ | ⟨w9, ho24w, rfl, ho24e⟩
    · have := ho24n
      refine ex_go (S := (63, [(0, gx_r 1), (1, .inl ty), (2, .inl p), (3, .inr (.inl v))], [.inr (.inr (.inl none)), .inl q, gx_r 6], t106, n, 0)) rfl (fun _ => rfl) rfl ?_
      refine gx_apv (d := 3) rfl (fun _ => rfl) g106 rfl rfl rfl (show q < 1001 from by omega) (gx_run1 (show q < 1001 from by omega)) wd_rh0 rfl (fun t125 g125 k125 e125 => ?_)
      have k26 : ai_hv t125 1 7 = some (.inl q) := (e125 1 7 (by first | decide | omega)).trans k7
      have k27 : ai_hv t125 3 q = some (.inl ty) := (e125 3 q (by first | decide | omega)).trans k8
      have k28 : ai_hv t125 4 q = some (.inl p) := (e125 4 q (by first | decide | omega)).trans k9
      have k29 : ai_hv t125 5 q = some (.inr (.inl v)) := (e125 5 q (by first | decide | omega)).trans k106
      refine ex_go (S := (65, [(0, gx_r 1), (1, .inl ty), (2, .inl p), (3, .inr (.inl v))], [gx_r 1], t125, n, 0)) rfl (fun _ => rfl) rfl ?_
      refine ex_go (S := (66, [(0, gx_r 1), (1, .inl ty), (2, .inl p), (3, .inr (.inl v))], [gx_r 1, gx_r 1], t125, n, 0)) rfl (fun _ => rfl) rfl ?_
      refine gxo_get (a := 1) rfl g125 rfl rfl k26 rfl ?_
      refine ex_go (S := (70, [(0, gx_r 1), (1, .inl ty), (2, .inl p), (3, .inr (.inl v))], [.inl 1, .inl q, gx_r 1], t125, n, 0)) rfl (fun _ => rfl) rfl ?_
      refine ex_iadd rfl (by first | decide | omega) rfl ?_
      refine gxo_put (a := 1) rfl g125 rfl rfl rfl (ai_in_h (by first | decide | omega) (by first | decide | omega) (by first | decide | omega)) rfl (fun t130 g130 k130 e130 => ?_)
      have k31 : ai_hv t130 3 q = some (.inl ty) := (e130 3 q (by first | decide | omega)).trans k27
      have k32 : ai_hv t130 4 q = some (.inl p) := (e130 4 q (by first | decide | omega)).trans k28
      have k33 : ai_hv t130 5 q = some (.inr (.inl v)) := (e130 5 q (by first | decide | omega)).trans k29
      have k34 : ai_hv t130 6 q = some (.inr (.inr (.inl none))) := (e130 6 q (by first | decide | omega)).trans k125
      refine ex_ret (r := (none, t130, n, 0)) rfl (fun _ => rfl) ?_
      exact ⟨_, rfl, t130, rfl, g130, (fun c i h => (e130 c i (by first | decide | omega)).trans ((e125 c i (by first | decide | omega)).trans ((e106 c i (by first | decide | omega)).trans ((e103 c i (by first | decide | omega)).trans (e101 c i (by first | decide | omega)))))), k130, k31, k32, k33, _, k34, Or.inl ⟨by omega, ho24⟩⟩
    · have := ho24w
      refine ex_go (S := (63, [(0, gx_r 1), (1, .inl ty), (2, .inl p), (3, .inr (.inl v))], [gx_w w9, .inl q, gx_r 6], t106, n, 0)) rfl (fun _ => rfl) rfl ?_
      refine gx_apv (d := 3) rfl (fun _ => rfl) g106 rfl rfl (wd_fit (by first | decide | omega)) (show q < 1001 from by omega) (gx_run1 (show q < 1001 from by omega)) (wd_rh1 (by first | decide | omega)) rfl (fun t135 g135 k135 e135 => ?_)
      have k36 : ai_hv t135 1 7 = some (.inl q) := (e135 1 7 (by first | decide | omega)).trans k7
      have k37 : ai_hv t135 3 q = some (.inl ty) := (e135 3 q (by first | decide | omega)).trans k8
      have k38 : ai_hv t135 4 q = some (.inl p) := (e135 4 q (by first | decide | omega)).trans k9
      have k39 : ai_hv t135 5 q = some (.inr (.inl v)) := (e135 5 q (by first | decide | omega)).trans k106
      refine ex_go (S := (65, [(0, gx_r 1), (1, .inl ty), (2, .inl p), (3, .inr (.inl v))], [gx_r 1], t135, n, 0)) rfl (fun _ => rfl) rfl ?_
      refine ex_go (S := (66, [(0, gx_r 1), (1, .inl ty), (2, .inl p), (3, .inr (.inl v))], [gx_r 1, gx_r 1], t135, n, 0)) rfl (fun _ => rfl) rfl ?_
      refine gxo_get (a := 1) rfl g135 rfl rfl k36 rfl ?_
      refine ex_go (S := (70, [(0, gx_r 1), (1, .inl ty), (2, .inl p), (3, .inr (.inl v))], [.inl 1, .inl q, gx_r 1], t135, n, 0)) rfl (fun _ => rfl) rfl ?_
      refine ex_iadd rfl (by first | decide | omega) rfl ?_
      refine gxo_put (a := 1) rfl g135 rfl rfl rfl (ai_in_h (by first | decide | omega) (by first | decide | omega) (by first | decide | omega)) rfl (fun t140 g140 k140 e140 => ?_)
      have k41 : ai_hv t140 3 q = some (.inl ty) := (e140 3 q (by first | decide | omega)).trans k37
      have k42 : ai_hv t140 4 q = some (.inl p) := (e140 4 q (by first | decide | omega)).trans k38
      have k43 : ai_hv t140 5 q = some (.inr (.inl v)) := (e140 5 q (by first | decide | omega)).trans k39
      have k44 : ai_hv t140 6 q = some (gx_w w9) := (e140 6 q (by first | decide | omega)).trans k135
      refine ex_ret (r := (none, t140, n, 0)) rfl (fun _ => rfl) ?_
      exact ⟨_, rfl, t140, rfl, g140, (fun c i h => (e140 c i (by first | decide | omega)).trans ((e135 c i (by first | decide | omega)).trans ((e106 c i (by first | decide | omega)).trans ((e103 c i (by first | decide | omega)).trans (e101 c i (by first | decide | omega)))))), k140, k41, k42, k43, _, k44, Or.inl ⟨by omega, ho24⟩⟩
/-- what the class keeps of the token that begins at p -/
noncomputable def sp_vC (S : Nat → Nat) (len p : Nat) : Nat := bif sp_le (S p) then sp_hv S p 32 96 (sp_rn S sp_le len p - p) else bif sp_di (S p) then sp_hv S p 10 48 (sp_rn S sp_di len p - p) else S p
theorem sp_vC_l {S : Nat → Nat} {m p : Nat} (h : sp_le (S p) = true) : sp_vC S m p = sp_hv S p 32 96 (sp_rn S sp_le m p - p) := by unfold sp_vC; rw [h]; rfl
theorem sp_vC_d {S : Nat → Nat} {m p : Nat} (h1 : sp_le (S p) = false) (h : sp_di (S p) = true) : sp_vC S m p = sp_hv S p 10 48 (sp_rn S sp_di m p - p) := by unfold sp_vC; rw [h1, h]; rfl
theorem sp_vC_s {S : Nat → Nat} {m p : Nat} (h1 : sp_le (S p) = false) (h : sp_di (S p) = false) : sp_vC S m p = S p := by unfold sp_vC; rw [h1, h]; rfl
noncomputable def sp_ct (ty : Nat) : Nat := bif Nat.beq ty 1 then 2 else bif Nat.beq ty 2 then 3 else bif Nat.beq ty 3 then 4 else 1
/-- the class's token q is the one that begins at p -/
noncomputable def tC1 (t : en_H) (S : Nat → Nat) (m q p : Nat) : Prop := ∃ wv, ai_hv t 3 q = some (.inl (sp_ct (sp_ty S m p))) ∧ ai_hv t 4 q = some (.inl p) ∧ ai_hv t 6 q = some wv ∧ (sp_ty S m p ≠ 4 → ai_hv t 5 q = some (.inr (.inl (sp_vC S m p)))) ∧ ((sp_ty S m p = 1 ∧ ok_P (sp_vC S m p) wv) ∨ (sp_ty S m p ≠ 1 ∧ wv = .inr (.inr (.inl none))))
theorem tC1_keep {t t' : en_H} {S : Nat → Nat} {m q p : Nat} (h : tC1 t S m q p) (e : ∀ c, c = 3 ∨ c = 4 ∨ c = 5 ∨ c = 6 → ai_hv t' c q = ai_hv t c q) : tC1 t' S m q p := by
  obtain ⟨wv, h1, h2, h3, h4, h5⟩ := h
  exact ⟨wv, (e 3 (by first | decide | omega)).trans h1, (e 4 (by first | decide | omega)).trans h2, (e 6 (by first | decide | omega)).trans h3, fun z => (e 5 (by first | decide | omega)).trans (h4 z), h5⟩
theorem sp_hv32 {S : Nat → Nat} {p n : Nat} (hn : n ≤ 8) (h : ∀ j, j < n → sp_le (S (p + j)) = true) : sp_hv S p 32 96 n < 1099511627777 := by
  have h1 := sp_hv_lt (S := S) (p := p) (b := 32) (c := 96) (n := n) (fun j hj => by have := sp_le_iff.mp (h j hj); omega)
  exact Nat.lt_of_lt_of_le h1 (Nat.le_trans (Nat.pow_le_pow_right (by decide) hn) (by decide))
theorem pc_isLetter (d n : Nat) {t0 : en_H} {x : Nat} (hx : x ≤ 127) : ∃ r, en_u (d + 1) 260 [.inl x] t0 n = some r ∧ ∃ b, r = (some (.inl b), t0, n, 0) ∧ (b ≤ 1 ∧ (b = 1 ↔ 97 ≤ x ∧ x ≤ 122)) := by
  refine en_u_ex rfl ?_
  show en_ex _ _ _ _ (0, [(0, .inl x)], [], t0, n, 0) _
  refine ex_go (S := (1, [(0, .inl x)], [.inl x], t0, n, 0)) rfl (fun _ => rfl) rfl ?_
  refine ex_go (S := (3, [(0, .inl x)], [.inl 97, .inl x], t0, n, 0)) rfl (fun _ => rfl) rfl ?_
  by_cases hc1 : x < 97
  · refine gx_2t (c := .lt) rfl (by first | decide | omega) (by first | decide | omega) hc1 rfl ?_
    refine ex_go (S := (17, [(0, .inl x)], [.inl 0], t0, n, 0)) rfl (fun _ => rfl) rfl ?_
    refine ex_ret (r := (some (.inl 0), t0, n, 0)) rfl (fun _ => rfl) ?_
    exact ⟨_, rfl, 0, rfl, by omega⟩
  · refine gx_2f (c := .lt) rfl (by first | decide | omega) (by first | decide | omega) hc1 rfl ?_
    refine ex_go (S := (7, [(0, .inl x)], [.inl x], t0, n, 0)) rfl (fun _ => rfl) rfl ?_
    refine ex_go (S := (9, [(0, .inl x)], [.inl 122, .inl x], t0, n, 0)) rfl (fun _ => rfl) rfl ?_
    by_cases hc2 : 122 < x
    · refine gx_2t (c := .gt) rfl (by first | decide | omega) (by first | decide | omega) hc2 rfl ?_
      refine ex_go (S := (17, [(0, .inl x)], [.inl 0], t0, n, 0)) rfl (fun _ => rfl) rfl ?_
      refine ex_ret (r := (some (.inl 0), t0, n, 0)) rfl (fun _ => rfl) ?_
      exact ⟨_, rfl, 0, rfl, by omega⟩
    · refine gx_2f (c := .gt) rfl (by first | decide | omega) (by first | decide | omega) hc2 rfl ?_
      refine ex_go (S := (13, [(0, .inl x)], [.inl 1], t0, n, 0)) rfl (fun _ => rfl) rfl ?_
      refine ex_go (S := (17, [(0, .inl x)], [.inl 1], t0, n, 0)) rfl (fun _ => rfl) rfl ?_
      refine ex_ret (r := (some (.inl 1), t0, n, 0)) rfl (fun _ => rfl) ?_
      exact ⟨_, rfl, 1, rfl, by omega⟩
theorem pc_isDigit (d n : Nat) {t0 : en_H} {x : Nat} (hx : x ≤ 127) : ∃ r, en_u (d + 1) 262 [.inl x] t0 n = some r ∧ ∃ b, r = (some (.inl b), t0, n, 0) ∧ (b ≤ 1 ∧ (b = 1 ↔ 48 ≤ x ∧ x ≤ 57)) := by
  refine en_u_ex rfl ?_
  show en_ex _ _ _ _ (0, [(0, .inl x)], [], t0, n, 0) _
  refine ex_go (S := (1, [(0, .inl x)], [.inl x], t0, n, 0)) rfl (fun _ => rfl) rfl ?_
  refine ex_go (S := (3, [(0, .inl x)], [.inl 48, .inl x], t0, n, 0)) rfl (fun _ => rfl) rfl ?_
  by_cases hc1 : x < 48
  · refine gx_2t (c := .lt) rfl (by first | decide | omega) (by first | decide | omega) hc1 rfl ?_
    refine ex_go (S := (17, [(0, .inl x)], [.inl 0], t0, n, 0)) rfl (fun _ => rfl) rfl ?_
    refine ex_ret (r := (some (.inl 0), t0, n, 0)) rfl (fun _ => rfl) ?_
    exact ⟨_, rfl, 0, rfl, by omega⟩
  · refine gx_2f (c := .lt) rfl (by first | decide | omega) (by first | decide | omega) hc1 rfl ?_
    refine ex_go (S := (7, [(0, .inl x)], [.inl x], t0, n, 0)) rfl (fun _ => rfl) rfl ?_
    refine ex_go (S := (9, [(0, .inl x)], [.inl 57, .inl x], t0, n, 0)) rfl (fun _ => rfl) rfl ?_
    by_cases hc2 : 57 < x
    · refine gx_2t (c := .gt) rfl (by first | decide | omega) (by first | decide | omega) hc2 rfl ?_
      refine ex_go (S := (17, [(0, .inl x)], [.inl 0], t0, n, 0)) rfl (fun _ => rfl) rfl ?_
      refine ex_ret (r := (some (.inl 0), t0, n, 0)) rfl (fun _ => rfl) ?_
      exact ⟨_, rfl, 0, rfl, by omega⟩
    · refine gx_2f (c := .gt) rfl (by first | decide | omega) (by first | decide | omega) hc2 rfl ?_
      refine ex_go (S := (13, [(0, .inl x)], [.inl 1], t0, n, 0)) rfl (fun _ => rfl) rfl ?_
      refine ex_go (S := (17, [(0, .inl x)], [.inl 1], t0, n, 0)) rfl (fun _ => rfl) rfl ?_
      refine ex_ret (r := (some (.inl 1), t0, n, 0)) rfl (fun _ => rfl) ?_
      exact ⟨_, rfl, 1, rfl, by omega⟩
theorem pc_isBlank (d n : Nat) {t0 : en_H} {x : Nat} (hx : x ≤ 127) : ∃ r, en_u (d + 1) 222 [.inl x] t0 n = some r ∧ ∃ b, r = (some (.inl b), t0, n, 0) ∧ (b ≤ 1 ∧ (b = 1 ↔ x = 10 ∨ x = 32)) := by
  refine en_u_ex rfl ?_
  show en_ex _ _ _ _ (0, [(0, .inl x)], [], t0, n, 0) _
  refine ex_go (S := (1, [(0, .inl x)], [.inl x], t0, n, 0)) rfl (fun _ => rfl) rfl ?_
  refine ex_go (S := (3, [(0, .inl x)], [.inl 10, .inl x], t0, n, 0)) rfl (fun _ => rfl) rfl ?_
  by_cases hc1 : x = 10
  · refine gx_2t (c := .eq) rfl (by first | decide | omega) (by first | decide | omega) hc1 rfl ?_
    refine ex_go (S := (13, [(0, .inl x)], [.inl 1], t0, n, 0)) rfl (fun _ => rfl) rfl ?_
    refine ex_go (S := (17, [(0, .inl x)], [.inl 1], t0, n, 0)) rfl (fun _ => rfl) rfl ?_
    refine ex_ret (r := (some (.inl 1), t0, n, 0)) rfl (fun _ => rfl) ?_
    exact ⟨_, rfl, 1, rfl, by omega⟩
  · refine gx_2f (c := .eq) rfl (by first | decide | omega) (by first | decide | omega) hc1 rfl ?_
    refine ex_go (S := (7, [(0, .inl x)], [.inl x], t0, n, 0)) rfl (fun _ => rfl) rfl ?_
    refine ex_go (S := (9, [(0, .inl x)], [.inl 32, .inl x], t0, n, 0)) rfl (fun _ => rfl) rfl ?_
    by_cases hc2 : x ≠ 32
    · refine gx_2t (c := .ne) rfl (by first | decide | omega) (by first | decide | omega) hc2 rfl ?_
      refine ex_go (S := (17, [(0, .inl x)], [.inl 0], t0, n, 0)) rfl (fun _ => rfl) rfl ?_
      refine ex_ret (r := (some (.inl 0), t0, n, 0)) rfl (fun _ => rfl) ?_
      exact ⟨_, rfl, 0, rfl, by omega⟩
    · refine gx_2f (c := .ne) rfl (by first | decide | omega) (by first | decide | omega) hc2 rfl ?_
      refine ex_go (S := (13, [(0, .inl x)], [.inl 1], t0, n, 0)) rfl (fun _ => rfl) rfl ?_
      refine ex_go (S := (17, [(0, .inl x)], [.inl 1], t0, n, 0)) rfl (fun _ => rfl) rfl ?_
      refine ex_ret (r := (some (.inl 1), t0, n, 0)) rfl (fun _ => rfl) ?_
      exact ⟨_, rfl, 1, rfl, by omega⟩
theorem ccutWord_l (d n : Nat) {t0 : en_H} {S : Nat → Nat} {m p q : Nat} (g0 : ai_HG ah_G t0) (k0 : ai_hv t0 1 0 = some (.inl m)) (k7 : ai_hv t0 1 7 = some (.inl q)) (hm : m ≤ 1000) (hq : q ≤ 1000) (hS : ∀ i, i < m → ai_hv t0 2 i = some (.inl (S i)) ∧ S i ≤ 127) (hp : p < m) (hle : sp_le (S p) = true) : ∀ j k v cl, k + j = m → p ≤ k → sp_rn S sp_le m p = sp_rn S sp_le m k → (∀ i, p ≤ i → i < k → sp_le (S i) = true) → (k - p ≤ 8 → v = sp_hv S p 32 96 (k - p)) → en_ld cl 0 = some (gx_r 1) → en_ld cl 1 = some (.inl p) → en_ld cl 2 = some (.inl k) → en_ld cl 3 = some (.inr (.inl v)) → en_ex none (en_u (d + 2)) (en_code 261) (fun _ => false) (4, cl, [], t0, n, 0) (fun o => ∃ r, o = .inl r ∧ ∃ t', r = (some (.inl (sp_rn S sp_le m p)), t', n, 0) ∧ ai_HG ah_G t' ∧ (∀ c i, ¬ ((c = 1 ∧ i = 7) ∨ ((c = 3 ∨ c = 4 ∨ c = 5 ∨ c = 6) ∧ i = q)) → ai_hv t' c i = ai_hv t0 c i) ∧ ai_hv t' 1 7 = some (.inl (q + 1)) ∧ tC1 t' S m q p) := by
  intro j
  induction j with
  | zero =>
    intro k v cl hk hpk hr ha hv h0 h1 h2 h3
    refine gx_ld (i := 2) (d := 0) (v := .inl k) rfl (fun _ => rfl) h2 rfl rfl ?_
    refine gx_ld (i := 0) (d := 2) (v := gx_r 1) rfl (fun _ => rfl) h0 rfl rfl ?_
    refine gxo_get (a := 1) rfl g0 rfl rfl k0 rfl ?_
    refine gx_2t (c := .ge) rfl (by first | decide | omega) (by first | decide | omega) (show m ≤ k from by omega) rfl ?_
    have hend : sp_rn S sp_le m p = k := hr.trans (sp_rn_end S sp_le (by first | decide | omega))
    refine gx_ld (i := 0) (d := 2) (v := gx_r 1) rfl (fun _ => rfl) h0 rfl rfl ?_
    refine gx_ld (i := 2) (d := 0) (v := .inl k) rfl (fun _ => rfl) h2 rfl rfl ?_
    refine gx_ld (i := 1) (d := 0) (v := .inl p) rfl (fun _ => rfl) h1 rfl rfl ?_
    refine gx_isub rfl (by first | decide | omega) (by first | decide | omega) rfl ?_
    refine ex_go (S := (55, cl, [.inl 8, .inl (k - p), gx_r 1], t0, n, 0)) rfl (fun _ => rfl) rfl ?_
    by_cases hc1 : k - p ≤ 8
    · refine gx_2t (c := .le) rfl (by first | decide | omega) (by first | decide | omega) hc1 rfl ?_
      refine ex_go (S := (63, cl, [.inl 2, gx_r 1], t0, n, 0)) rfl (fun _ => rfl) rfl ?_
      refine gx_ld (i := 1) (d := 0) (v := .inl p) rfl (fun _ => rfl) h1 rfl rfl ?_
      refine gx_ld (i := 3) (d := 1) (v := .inr (.inl v)) rfl (fun _ => rfl) h3 rfl rfl ?_
      obtain ⟨_, r102, t102, rfl, g102, e102, kq102, ka102, kb102, kc102, wv102, kw102, hw102⟩ := pk_addToken (d + 0) n (q := q) (ty := 2) (p := p) (v := v) g0 (by first | decide | omega) (by first | decide | omega) (by first | decide | omega) k7
      refine gx_callo (a := 1) rfl rfl g0 rfl rfl rfl r102 rfl ?_
      have k3 : ai_hv t102 1 0 = some (.inl m) := (e102 1 0 (by first | decide | omega)).trans k0
      show en_ex _ _ _ _ (68, cl, [], t102, n, 0) _
      refine gx_ld (i := 2) (d := 0) (v := .inl k) rfl (fun _ => rfl) h2 rfl rfl ?_
      refine ex_ret (r := (some (.inl k), t102, n, 0)) rfl (fun _ => rfl) ?_
      have hty := sp_ty_l1 (S := S) (m := m) (p := p) hle (by first | decide | omega)
      rw [show (k : Nat) = sp_rn S sp_le m p from hend.symm]
      have hvv : sp_vC S m p = v := by rw [sp_vC_l hle, hend]; exact (hv (by first | decide | omega)).symm
      exact ⟨_, rfl, t102, rfl, g102, e102, kq102, wv102, by rw [hty]; exact ka102, kb102, kw102, fun _ => by rw [hvv]; exact kc102, Or.inl ⟨hty, by rw [hvv]; exact (hw102.resolve_right (fun z => z.1 rfl)).2⟩⟩
    · refine gx_2f (c := .le) rfl (by first | decide | omega) (by first | decide | omega) hc1 rfl ?_
      refine ex_go (S := (59, cl, [.inl 1, gx_r 1], t0, n, 0)) rfl (fun _ => rfl) rfl ?_
      refine ex_go (S := (63, cl, [.inl 1, gx_r 1], t0, n, 0)) rfl (fun _ => rfl) rfl ?_
      refine gx_ld (i := 1) (d := 0) (v := .inl p) rfl (fun _ => rfl) h1 rfl rfl ?_
      refine gx_ld (i := 3) (d := 1) (v := .inr (.inl v)) rfl (fun _ => rfl) h3 rfl rfl ?_
      obtain ⟨_, r104, t104, rfl, g104, e104, kq104, ka104, kb104, kc104, wv104, kw104, hw104⟩ := pk_addToken (d + 0) n (q := q) (ty := 1) (p := p) (v := v) g0 (by first | decide | omega) (by first | decide | omega) (by first | decide | omega) k7
      refine gx_callo (a := 1) rfl rfl g0 rfl rfl rfl r104 rfl ?_
      have k5 : ai_hv t104 1 0 = some (.inl m) := (e104 1 0 (by first | decide | omega)).trans k0
      show en_ex _ _ _ _ (68, cl, [], t104, n, 0) _
      refine gx_ld (i := 2) (d := 0) (v := .inl k) rfl (fun _ => rfl) h2 rfl rfl ?_
      refine ex_ret (r := (some (.inl k), t104, n, 0)) rfl (fun _ => rfl) ?_
      have hty := sp_ty_l4 (S := S) (m := m) (p := p) hle (by first | decide | omega)
      rw [show (k : Nat) = sp_rn S sp_le m p from hend.symm]
      exact ⟨_, rfl, t104, rfl, g104, e104, kq104, wv104, by rw [hty]; exact ka104, kb104, kw104, fun z => absurd hty z, Or.inr ⟨by rw [hty]; decide, (hw104.resolve_left (fun z => absurd z.1 (by decide))).2⟩⟩
  | succ j ih =>
    intro k v cl hk hpk hr ha hv h0 h1 h2 h3
    refine gx_ld (i := 2) (d := 0) (v := .inl k) rfl (fun _ => rfl) h2 rfl rfl ?_
    refine gx_ld (i := 0) (d := 2) (v := gx_r 1) rfl (fun _ => rfl) h0 rfl rfl ?_
    refine gxo_get (a := 1) rfl g0 rfl rfl k0 rfl ?_
    refine gx_2f (c := .ge) rfl (by first | decide | omega) (by first | decide | omega) (show ¬ (m ≤ k) from by omega) rfl ?_
    refine gx_ld (i := 0) (d := 2) (v := gx_r 1) rfl (fun _ => rfl) h0 rfl rfl ?_
    refine gxo_ref (a := 1) (c := 2) rfl g0 rfl rfl rfl rfl rfl ?_
    refine gx_ld (i := 2) (d := 0) (v := .inl k) rfl (fun _ => rfl) h2 rfl rfl ?_
    have k1 := (hS (k) (by first | decide | omega)).1
    have k1b := (hS (k) (by first | decide | omega)).2
    refine gx_ag (v := .inl (S k)) (cb := fun c => Nat.beq c 2 || Nat.beq c 1) rfl (fun _ => rfl) g0 rfl rfl k1 (by first | decide | omega) rfl ?_
    obtain ⟨_, r2, b3, rfl, q4⟩ := pc_isLetter (d + 1) n (t0 := t0) (x := S k) (by first | decide | omega)
    refine ex_stat rfl rfl rfl rfl rfl r2 (Nat.le_refl _) rfl ?_
    show en_ex _ _ _ _ (21, cl, [.inl b3], t0, n, 0) _
    by_cases hc5 : b3 = 0
    · refine gx_1t (c := .eq) rfl (by first | decide | omega) hc5 rfl ?_
      have hend : sp_rn S sp_le m p = k := hr.trans (sp_rn_f (sp_no (fun z => by have := sp_le_iff.mp z; omega)))
      refine gx_ld (i := 0) (d := 2) (v := gx_r 1) rfl (fun _ => rfl) h0 rfl rfl ?_
      refine gx_ld (i := 2) (d := 0) (v := .inl k) rfl (fun _ => rfl) h2 rfl rfl ?_
      refine gx_ld (i := 1) (d := 0) (v := .inl p) rfl (fun _ => rfl) h1 rfl rfl ?_
      refine gx_isub rfl (by first | decide | omega) (by first | decide | omega) rfl ?_
      refine ex_go (S := (55, cl, [.inl 8, .inl (k - p), gx_r 1], t0, n, 0)) rfl (fun _ => rfl) rfl ?_
      by_cases hc6 : k - p ≤ 8
      · refine gx_2t (c := .le) rfl (by first | decide | omega) (by first | decide | omega) hc6 rfl ?_
        refine ex_go (S := (63, cl, [.inl 2, gx_r 1], t0, n, 0)) rfl (fun _ => rfl) rfl ?_
        refine gx_ld (i := 1) (d := 0) (v := .inl p) rfl (fun _ => rfl) h1 rfl rfl ?_
        refine gx_ld (i := 3) (d := 1) (v := .inr (.inl v)) rfl (fun _ => rfl) h3 rfl rfl ?_
        obtain ⟨_, r107, t107, rfl, g107, e107, kq107, ka107, kb107, kc107, wv107, kw107, hw107⟩ := pk_addToken (d + 0) n (q := q) (ty := 2) (p := p) (v := v) g0 (by first | decide | omega) (by first | decide | omega) (by first | decide | omega) k7
        refine gx_callo (a := 1) rfl rfl g0 rfl rfl rfl r107 rfl ?_
        have k8 : ai_hv t107 1 0 = some (.inl m) := (e107 1 0 (by first | decide | omega)).trans k0
        show en_ex _ _ _ _ (68, cl, [], t107, n, 0) _
        refine gx_ld (i := 2) (d := 0) (v := .inl k) rfl (fun _ => rfl) h2 rfl rfl ?_
        refine ex_ret (r := (some (.inl k), t107, n, 0)) rfl (fun _ => rfl) ?_
        have hty := sp_ty_l1 (S := S) (m := m) (p := p) hle (by first | decide | omega)
        rw [show (k : Nat) = sp_rn S sp_le m p from hend.symm]
        have hvv : sp_vC S m p = v := by rw [sp_vC_l hle, hend]; exact (hv (by first | decide | omega)).symm
        exact ⟨_, rfl, t107, rfl, g107, e107, kq107, wv107, by rw [hty]; exact ka107, kb107, kw107, fun _ => by rw [hvv]; exact kc107, Or.inl ⟨hty, by rw [hvv]; exact (hw107.resolve_right (fun z => z.1 rfl)).2⟩⟩
      · refine gx_2f (c := .le) rfl (by first | decide | omega) (by first | decide | omega) hc6 rfl ?_
        refine ex_go (S := (59, cl, [.inl 1, gx_r 1], t0, n, 0)) rfl (fun _ => rfl) rfl ?_
        refine ex_go (S := (63, cl, [.inl 1, gx_r 1], t0, n, 0)) rfl (fun _ => rfl) rfl ?_
        refine gx_ld (i := 1) (d := 0) (v := .inl p) rfl (fun _ => rfl) h1 rfl rfl ?_
        refine gx_ld (i := 3) (d := 1) (v := .inr (.inl v)) rfl (fun _ => rfl) h3 rfl rfl ?_
        obtain ⟨_, r109, t109, rfl, g109, e109, kq109, ka109, kb109, kc109, wv109, kw109, hw109⟩ := pk_addToken (d + 0) n (q := q) (ty := 1) (p := p) (v := v) g0 (by first | decide | omega) (by first | decide | omega) (by first | decide | omega) k7
        refine gx_callo (a := 1) rfl rfl g0 rfl rfl rfl r109 rfl ?_
        have k10 : ai_hv t109 1 0 = some (.inl m) := (e109 1 0 (by first | decide | omega)).trans k0
        show en_ex _ _ _ _ (68, cl, [], t109, n, 0) _
        refine gx_ld (i := 2) (d := 0) (v := .inl k) rfl (fun _ => rfl) h2 rfl rfl ?_
        refine ex_ret (r := (some (.inl k), t109, n, 0)) rfl (fun _ => rfl) ?_
        have hty := sp_ty_l4 (S := S) (m := m) (p := p) hle (by first | decide | omega)
        rw [show (k : Nat) = sp_rn S sp_le m p from hend.symm]
        exact ⟨_, rfl, t109, rfl, g109, e109, kq109, wv109, by rw [hty]; exact ka109, kb109, kw109, fun z => absurd hty z, Or.inr ⟨by rw [hty]; decide, (hw109.resolve_left (fun z => absurd z.1 (by decide))).2⟩⟩
    · refine gx_1f (c := .eq) rfl (by first | decide | omega) hc5 rfl ?_
      by_cases h8 : k - p < 8
      · have hvb : v < 1099511627777 := by
          rw [hv (by first | decide | omega)]
          exact sp_hv32 (by first | decide | omega) (fun j9 h9 => ha _ (by first | decide | omega) (by first | decide | omega))
        refine gx_ld (i := 3) (d := 1) (v := .inr (.inl v)) rfl (fun _ => rfl) h3 rfl rfl ?_
        refine ex_go (S := (28, cl, [.inr (.inl 32), .inr (.inl v)], t0, n, 0)) rfl (fun _ => rfl) rfl ?_
        refine ex_go (S := (29, cl, [.inr (.inl ((lN v * lN 32).toBitVec.toNat))], t0, n, 0)) rfl (fun _ => rfl) rfl ?_
        rw [sp_lmul (by first | decide | omega)]
        refine gx_ld (i := 0) (d := 2) (v := gx_r 1) rfl (fun _ => rfl) h0 rfl rfl ?_
        refine gxo_ref (a := 1) (c := 2) rfl g0 rfl rfl rfl rfl rfl ?_
        refine gx_ld (i := 2) (d := 0) (v := .inl k) rfl (fun _ => rfl) h2 rfl rfl ?_
        refine gx_ag (v := .inl (S k)) (cb := fun c => Nat.beq c 2 || Nat.beq c 1) rfl (fun _ => rfl) g0 rfl rfl k1 (by first | decide | omega) rfl ?_
        refine ex_go (S := (37, cl, [.inl 97, .inl (S k), .inr (.inl (v * 32))], t0, n, 0)) rfl (fun _ => rfl) rfl ?_
        refine gx_isub rfl (by first | decide | omega) (by first | decide | omega) rfl ?_
        refine ex_go (S := (39, cl, [.inl 1, .inl ((S k) - 97), .inr (.inl (v * 32))], t0, n, 0)) rfl (fun _ => rfl) rfl ?_
        refine ex_iadd rfl (by first | decide | omega) rfl ?_
        refine ex_go (S := (41, cl, [.inr (.inl ((nI (((S k) - 97) + 1)).toInt64.toBitVec.toNat)), .inr (.inl (v * 32))], t0, n, 0)) rfl (fun _ => rfl) rfl ?_
        rw [sp_i2l (by first | decide | omega)]
        refine ex_go (S := (42, cl, [.inr (.inl ((lN (v * 32) + lN (((S k) - 97) + 1)).toBitVec.toNat))], t0, n, 0)) rfl (fun _ => rfl) rfl ?_
        rw [sp_ladd (by first | decide | omega)]
        refine gx_sto (i := 3) (d := 1) rfl (fun _ => rfl) rfl rfl (fun l11 hl11 ml11 => ?_)
        have l11_0 : en_ld l11 0 = some (gx_r 1) := ml11 0 _ h0 rfl
        have l11_1 : en_ld l11 1 = some (.inl p) := ml11 1 _ h1 rfl
        have l11_2 : en_ld l11 2 = some (.inl k) := ml11 2 _ h2 rfl
        refine gx_incS (i := 2) (a := k) (x := 1) rfl (fun _ => rfl) l11_2 (by first | decide | omega) rfl (fun l12 hl12 ml12 => ?_)
        have l12_0 : en_ld l12 0 = some (gx_r 1) := ml12 0 _ l11_0 rfl
        have l12_1 : en_ld l12 1 = some (.inl p) := ml12 1 _ l11_1 rfl
        have l12_3 : en_ld l12 3 = some (.inr (.inl ((v * 32) + (((S k) - 97) + 1)))) := ml12 3 _ hl11 rfl
        refine ex_go (S := (4, l12, [], t0, n, 0)) rfl (fun _ => rfl) rfl ?_
        have hlt : sp_le (S k) = true := sp_le_iff.mpr (by first | decide | omega)
        have hvn : k + 1 - p ≤ 8 → (v * 32) + (((S k) - 97) + 1) = sp_hv S p 32 96 (k + 1 - p) := fun z => by
          rw [show k + 1 - p = k - p + 1 by omega, sp_hv_n hpk, ← hv (by first | decide | omega)]
          omega
        exact ih (k + 1) _ _ (by first | decide | omega) (by first | decide | omega) (hr.trans (sp_rn_t (by first | decide | omega) hlt)) (fun i z1 z2 => by
          by_cases e : i = k
          · rw [e]; exact hlt
          · exact ha i z1 (by first | decide | omega)) hvn l12_0 l12_1 hl12 l12_3
      · have := h8
        refine gx_ld (i := 3) (d := 1) (v := .inr (.inl v)) rfl (fun _ => rfl) h3 rfl rfl ?_
        refine ex_go (S := (28, cl, [.inr (.inl 32), .inr (.inl v)], t0, n, 0)) rfl (fun _ => rfl) rfl ?_
        refine ex_go (S := (29, cl, [.inr (.inl ((lN v * lN 32).toBitVec.toNat))], t0, n, 0)) rfl (fun _ => rfl) rfl ?_
        generalize (lN v * lN 32).toBitVec.toNat = z13
        refine gx_ld (i := 0) (d := 2) (v := gx_r 1) rfl (fun _ => rfl) h0 rfl rfl ?_
        refine gxo_ref (a := 1) (c := 2) rfl g0 rfl rfl rfl rfl rfl ?_
        refine gx_ld (i := 2) (d := 0) (v := .inl k) rfl (fun _ => rfl) h2 rfl rfl ?_
        refine gx_ag (v := .inl (S k)) (cb := fun c => Nat.beq c 2 || Nat.beq c 1) rfl (fun _ => rfl) g0 rfl rfl k1 (by first | decide | omega) rfl ?_
        refine ex_go (S := (37, cl, [.inl 97, .inl (S k), .inr (.inl z13)], t0, n, 0)) rfl (fun _ => rfl) rfl ?_
        refine gx_isub rfl (by first | decide | omega) (by first | decide | omega) rfl ?_
        refine ex_go (S := (39, cl, [.inl 1, .inl ((S k) - 97), .inr (.inl z13)], t0, n, 0)) rfl (fun _ => rfl) rfl ?_
        refine ex_iadd rfl (by first | decide | omega) rfl ?_
        refine ex_go (S := (41, cl, [.inr (.inl ((nI (((S k) - 97) + 1)).toInt64.toBitVec.toNat)), .inr (.inl z13)], t0, n, 0)) rfl (fun _ => rfl) rfl ?_
        rw [sp_i2l (by first | decide | omega)]
        refine ex_go (S := (42, cl, [.inr (.inl ((lN z13 + lN (((S k) - 97) + 1)).toBitVec.toNat))], t0, n, 0)) rfl (fun _ => rfl) rfl ?_
        generalize (lN z13 + lN (((S k) - 97) + 1)).toBitVec.toNat = z14
        refine gx_sto (i := 3) (d := 1) rfl (fun _ => rfl) rfl rfl (fun l15 hl15 ml15 => ?_)
        have l15_0 : en_ld l15 0 = some (gx_r 1) := ml15 0 _ h0 rfl
        have l15_1 : en_ld l15 1 = some (.inl p) := ml15 1 _ h1 rfl
        have l15_2 : en_ld l15 2 = some (.inl k) := ml15 2 _ h2 rfl
        refine gx_incS (i := 2) (a := k) (x := 1) rfl (fun _ => rfl) l15_2 (by first | decide | omega) rfl (fun l16 hl16 ml16 => ?_)
        have l16_0 : en_ld l16 0 = some (gx_r 1) := ml16 0 _ l15_0 rfl
        have l16_1 : en_ld l16 1 = some (.inl p) := ml16 1 _ l15_1 rfl
        have l16_3 : en_ld l16 3 = some (.inr (.inl z14)) := ml16 3 _ hl15 rfl
        refine ex_go (S := (4, l16, [], t0, n, 0)) rfl (fun _ => rfl) rfl ?_
        have hlt : sp_le (S k) = true := sp_le_iff.mpr (by first | decide | omega)
        have hvn : k + 1 - p ≤ 8 → z14 = sp_hv S p 32 96 (k + 1 - p) := fun z => by omega
        exact ih (k + 1) _ _ (by first | decide | omega) (by first | decide | omega) (hr.trans (sp_rn_t (by first | decide | omega) hlt)) (fun i z1 z2 => by
          by_cases e : i = k
          · rw [e]; exact hlt
          · exact ha i z1 (by first | decide | omega)) hvn l16_0 l16_1 hl16 l16_3
theorem pc_cutWord (d n : Nat) {t0 : en_H} {S : Nat → Nat} {m p q : Nat} (g0 : ai_HG ah_G t0) (k0 : ai_hv t0 1 0 = some (.inl m)) (k7 : ai_hv t0 1 7 = some (.inl q)) (hm : m ≤ 1000) (hq : q ≤ 1000) (hS : ∀ i, i < m → ai_hv t0 2 i = some (.inl (S i)) ∧ S i ≤ 127) (hp : p < m) (hle : sp_le (S p) = true) : ∃ r, en_u (d + 3) 261 [gx_r 1, .inl p] t0 n = some r ∧ ∃ t', r = (some (.inl (sp_rn S sp_le m p)), t', n, 0) ∧ ai_HG ah_G t' ∧ (∀ c i, ¬ ((c = 1 ∧ i = 7) ∨ ((c = 3 ∨ c = 4 ∨ c = 5 ∨ c = 6) ∧ i = q)) → ai_hv t' c i = ai_hv t0 c i) ∧ ai_hv t' 1 7 = some (.inl (q + 1)) ∧ tC1 t' S m q p := by
  refine en_u_ex (d := d + 2) rfl ?_
  show en_ex _ _ _ _ (0, [(0, gx_r 1), (1, .inl p)], [], t0, n, 0) _
  refine ex_go (S := (1, [(0, gx_r 1), (1, .inl p)], [.inl p], t0, n, 0)) rfl (fun _ => rfl) rfl ?_
  refine ex_go (S := (2, [(2, .inl p), (0, gx_r 1), (1, .inl p)], [], t0, n, 0)) rfl (fun _ => rfl) rfl ?_
  refine ex_go (S := (3, [(2, .inl p), (0, gx_r 1), (1, .inl p)], [.inr (.inl 0)], t0, n, 0)) rfl (fun _ => rfl) rfl ?_
  refine ex_go (S := (4, [(3, .inr (.inl 0)), (2, .inl p), (0, gx_r 1), (1, .inl p)], [], t0, n, 0)) rfl (fun _ => rfl) rfl ?_
  exact ccutWord_l d n g0 k0 k7 hm hq hS hp hle (m - p) p 0 _ (by first | decide | omega) (by first | decide | omega) rfl (fun i z1 z2 => by omega) (fun _ => by rw [Nat.sub_self]; rfl) rfl rfl rfl rfl
theorem ccutNumber_l (d n : Nat) {t0 : en_H} {S : Nat → Nat} {m p q : Nat} (g0 : ai_HG ah_G t0) (k0 : ai_hv t0 1 0 = some (.inl m)) (k7 : ai_hv t0 1 7 = some (.inl q)) (hm : m ≤ 1000) (hq : q ≤ 1000) (hS : ∀ i, i < m → ai_hv t0 2 i = some (.inl (S i)) ∧ S i ≤ 127) (hp : p < m) (hle : sp_le (S p) = false) (hdi : sp_di (S p) = true) : ∀ j k v cl, k + j = m → p ≤ k → sp_rn S sp_di m p = sp_rn S sp_di m k → (∀ i, p ≤ i → i < k → sp_di (S i) = true) → (k - p ≤ 4 → v = sp_hv S p 10 48 (k - p)) → en_ld cl 0 = some (gx_r 1) → en_ld cl 1 = some (.inl p) → en_ld cl 2 = some (.inl k) → en_ld cl 3 = some (.inr (.inl v)) → en_ex none (en_u (d + 2)) (en_code 263) (fun _ => false) (4, cl, [], t0, n, 0) (fun o => ∃ r, o = .inl r ∧ ∃ t', r = (some (.inl (sp_rn S sp_di m p)), t', n, 0) ∧ ai_HG ah_G t' ∧ (∀ c i, ¬ ((c = 1 ∧ i = 7) ∨ ((c = 3 ∨ c = 4 ∨ c = 5 ∨ c = 6) ∧ i = q)) → ai_hv t' c i = ai_hv t0 c i) ∧ ai_hv t' 1 7 = some (.inl (q + 1)) ∧ tC1 t' S m q p) := by
  intro j
  induction j with
  | zero =>
    intro k v cl hk hpk hr ha hv h0 h1 h2 h3
    refine gx_ld (i := 2) (d := 0) (v := .inl k) rfl (fun _ => rfl) h2 rfl rfl ?_
    refine gx_ld (i := 0) (d := 2) (v := gx_r 1) rfl (fun _ => rfl) h0 rfl rfl ?_
    refine gxo_get (a := 1) rfl g0 rfl rfl k0 rfl ?_
    refine gx_2t (c := .ge) rfl (by first | decide | omega) (by first | decide | omega) (show m ≤ k from by omega) rfl ?_
    have hend : sp_rn S sp_di m p = k := hr.trans (sp_rn_end S sp_di (by first | decide | omega))
    refine gx_ld (i := 0) (d := 2) (v := gx_r 1) rfl (fun _ => rfl) h0 rfl rfl ?_
    refine gx_ld (i := 2) (d := 0) (v := .inl k) rfl (fun _ => rfl) h2 rfl rfl ?_
    refine gx_ld (i := 1) (d := 0) (v := .inl p) rfl (fun _ => rfl) h1 rfl rfl ?_
    refine gx_isub rfl (by first | decide | omega) (by first | decide | omega) rfl ?_
    refine ex_go (S := (52, cl, [.inl 4, .inl (k - p), gx_r 1], t0, n, 0)) rfl (fun _ => rfl) rfl ?_
    by_cases hc1 : k - p ≤ 4
    · refine gx_2t (c := .le) rfl (by first | decide | omega) (by first | decide | omega) hc1 rfl ?_
      refine ex_go (S := (60, cl, [.inl 3, gx_r 1], t0, n, 0)) rfl (fun _ => rfl) rfl ?_
      refine gx_ld (i := 1) (d := 0) (v := .inl p) rfl (fun _ => rfl) h1 rfl rfl ?_
      refine gx_ld (i := 3) (d := 1) (v := .inr (.inl v)) rfl (fun _ => rfl) h3 rfl rfl ?_
      obtain ⟨_, r102, t102, rfl, g102, e102, kq102, ka102, kb102, kc102, wv102, kw102, hw102⟩ := pk_addToken (d + 0) n (q := q) (ty := 3) (p := p) (v := v) g0 (by first | decide | omega) (by first | decide | omega) (by first | decide | omega) k7
      refine gx_callo (a := 1) rfl rfl g0 rfl rfl rfl r102 rfl ?_
      have k3 : ai_hv t102 1 0 = some (.inl m) := (e102 1 0 (by first | decide | omega)).trans k0
      show en_ex _ _ _ _ (65, cl, [], t102, n, 0) _
      refine gx_ld (i := 2) (d := 0) (v := .inl k) rfl (fun _ => rfl) h2 rfl rfl ?_
      refine ex_ret (r := (some (.inl k), t102, n, 0)) rfl (fun _ => rfl) ?_
      have hty := sp_ty_d1 (S := S) (m := m) (p := p) hle hdi (by first | decide | omega)
      rw [show (k : Nat) = sp_rn S sp_di m p from hend.symm]
      have hvv : sp_vC S m p = v := by rw [sp_vC_d hle hdi, hend]; exact (hv (by first | decide | omega)).symm
      exact ⟨_, rfl, t102, rfl, g102, e102, kq102, wv102, by rw [hty]; exact ka102, kb102, kw102, fun _ => by rw [hvv]; exact kc102, Or.inr ⟨by rw [hty]; decide, (hw102.resolve_left (fun z => absurd z.1 (by decide))).2⟩⟩
    · refine gx_2f (c := .le) rfl (by first | decide | omega) (by first | decide | omega) hc1 rfl ?_
      refine ex_go (S := (56, cl, [.inl 1, gx_r 1], t0, n, 0)) rfl (fun _ => rfl) rfl ?_
      refine ex_go (S := (60, cl, [.inl 1, gx_r 1], t0, n, 0)) rfl (fun _ => rfl) rfl ?_
      refine gx_ld (i := 1) (d := 0) (v := .inl p) rfl (fun _ => rfl) h1 rfl rfl ?_
      refine gx_ld (i := 3) (d := 1) (v := .inr (.inl v)) rfl (fun _ => rfl) h3 rfl rfl ?_
      obtain ⟨_, r104, t104, rfl, g104, e104, kq104, ka104, kb104, kc104, wv104, kw104, hw104⟩ := pk_addToken (d + 0) n (q := q) (ty := 1) (p := p) (v := v) g0 (by first | decide | omega) (by first | decide | omega) (by first | decide | omega) k7
      refine gx_callo (a := 1) rfl rfl g0 rfl rfl rfl r104 rfl ?_
      have k5 : ai_hv t104 1 0 = some (.inl m) := (e104 1 0 (by first | decide | omega)).trans k0
      show en_ex _ _ _ _ (65, cl, [], t104, n, 0) _
      refine gx_ld (i := 2) (d := 0) (v := .inl k) rfl (fun _ => rfl) h2 rfl rfl ?_
      refine ex_ret (r := (some (.inl k), t104, n, 0)) rfl (fun _ => rfl) ?_
      have hty := sp_ty_d4 (S := S) (m := m) (p := p) hle hdi (by first | decide | omega)
      rw [show (k : Nat) = sp_rn S sp_di m p from hend.symm]
      exact ⟨_, rfl, t104, rfl, g104, e104, kq104, wv104, by rw [hty]; exact ka104, kb104, kw104, fun z => absurd hty z, Or.inr ⟨by rw [hty]; decide, (hw104.resolve_left (fun z => absurd z.1 (by decide))).2⟩⟩
  | succ j ih =>
    intro k v cl hk hpk hr ha hv h0 h1 h2 h3
    refine gx_ld (i := 2) (d := 0) (v := .inl k) rfl (fun _ => rfl) h2 rfl rfl ?_
    refine gx_ld (i := 0) (d := 2) (v := gx_r 1) rfl (fun _ => rfl) h0 rfl rfl ?_
    refine gxo_get (a := 1) rfl g0 rfl rfl k0 rfl ?_
    refine gx_2f (c := .ge) rfl (by first | decide | omega) (by first | decide | omega) (show ¬ (m ≤ k) from by omega) rfl ?_
    refine gx_ld (i := 0) (d := 2) (v := gx_r 1) rfl (fun _ => rfl) h0 rfl rfl ?_
    refine gxo_ref (a := 1) (c := 2) rfl g0 rfl rfl rfl rfl rfl ?_
    refine gx_ld (i := 2) (d := 0) (v := .inl k) rfl (fun _ => rfl) h2 rfl rfl ?_
    have k1 := (hS (k) (by first | decide | omega)).1
    have k1b := (hS (k) (by first | decide | omega)).2
    refine gx_ag (v := .inl (S k)) (cb := fun c => Nat.beq c 2 || Nat.beq c 1) rfl (fun _ => rfl) g0 rfl rfl k1 (by first | decide | omega) rfl ?_
    obtain ⟨_, r2, b3, rfl, q4⟩ := pc_isDigit (d + 1) n (t0 := t0) (x := S k) (by first | decide | omega)
    refine ex_stat rfl rfl rfl rfl rfl r2 (Nat.le_refl _) rfl ?_
    show en_ex _ _ _ _ (21, cl, [.inl b3], t0, n, 0) _
    by_cases hc5 : b3 = 0
    · refine gx_1t (c := .eq) rfl (by first | decide | omega) hc5 rfl ?_
      have hend : sp_rn S sp_di m p = k := hr.trans (sp_rn_f (sp_no (fun z => by have := sp_di_iff.mp z; omega)))
      refine gx_ld (i := 0) (d := 2) (v := gx_r 1) rfl (fun _ => rfl) h0 rfl rfl ?_
      refine gx_ld (i := 2) (d := 0) (v := .inl k) rfl (fun _ => rfl) h2 rfl rfl ?_
      refine gx_ld (i := 1) (d := 0) (v := .inl p) rfl (fun _ => rfl) h1 rfl rfl ?_
      refine gx_isub rfl (by first | decide | omega) (by first | decide | omega) rfl ?_
      refine ex_go (S := (52, cl, [.inl 4, .inl (k - p), gx_r 1], t0, n, 0)) rfl (fun _ => rfl) rfl ?_
      by_cases hc6 : k - p ≤ 4
      · refine gx_2t (c := .le) rfl (by first | decide | omega) (by first | decide | omega) hc6 rfl ?_
        refine ex_go (S := (60, cl, [.inl 3, gx_r 1], t0, n, 0)) rfl (fun _ => rfl) rfl ?_
        refine gx_ld (i := 1) (d := 0) (v := .inl p) rfl (fun _ => rfl) h1 rfl rfl ?_
        refine gx_ld (i := 3) (d := 1) (v := .inr (.inl v)) rfl (fun _ => rfl) h3 rfl rfl ?_
        obtain ⟨_, r107, t107, rfl, g107, e107, kq107, ka107, kb107, kc107, wv107, kw107, hw107⟩ := pk_addToken (d + 0) n (q := q) (ty := 3) (p := p) (v := v) g0 (by first | decide | omega) (by first | decide | omega) (by first | decide | omega) k7
        refine gx_callo (a := 1) rfl rfl g0 rfl rfl rfl r107 rfl ?_
        have k8 : ai_hv t107 1 0 = some (.inl m) := (e107 1 0 (by first | decide | omega)).trans k0
        show en_ex _ _ _ _ (65, cl, [], t107, n, 0) _
        refine gx_ld (i := 2) (d := 0) (v := .inl k) rfl (fun _ => rfl) h2 rfl rfl ?_
        refine ex_ret (r := (some (.inl k), t107, n, 0)) rfl (fun _ => rfl) ?_
        have hty := sp_ty_d1 (S := S) (m := m) (p := p) hle hdi (by first | decide | omega)
        rw [show (k : Nat) = sp_rn S sp_di m p from hend.symm]
        have hvv : sp_vC S m p = v := by rw [sp_vC_d hle hdi, hend]; exact (hv (by first | decide | omega)).symm
        exact ⟨_, rfl, t107, rfl, g107, e107, kq107, wv107, by rw [hty]; exact ka107, kb107, kw107, fun _ => by rw [hvv]; exact kc107, Or.inr ⟨by rw [hty]; decide, (hw107.resolve_left (fun z => absurd z.1 (by decide))).2⟩⟩
      · refine gx_2f (c := .le) rfl (by first | decide | omega) (by first | decide | omega) hc6 rfl ?_
        refine ex_go (S := (56, cl, [.inl 1, gx_r 1], t0, n, 0)) rfl (fun _ => rfl) rfl ?_
        refine ex_go (S := (60, cl, [.inl 1, gx_r 1], t0, n, 0)) rfl (fun _ => rfl) rfl ?_
        refine gx_ld (i := 1) (d := 0) (v := .inl p) rfl (fun _ => rfl) h1 rfl rfl ?_
        refine gx_ld (i := 3) (d := 1) (v := .inr (.inl v)) rfl (fun _ => rfl) h3 rfl rfl ?_
        obtain ⟨_, r109, t109, rfl, g109, e109, kq109, ka109, kb109, kc109, wv109, kw109, hw109⟩ := pk_addToken (d + 0) n (q := q) (ty := 1) (p := p) (v := v) g0 (by first | decide | omega) (by first | decide | omega) (by first | decide | omega) k7
        refine gx_callo (a := 1) rfl rfl g0 rfl rfl rfl r109 rfl ?_
        have k10 : ai_hv t109 1 0 = some (.inl m) := (e109 1 0 (by first | decide | omega)).trans k0
        show en_ex _ _ _ _ (65, cl, [], t109, n, 0) _
        refine gx_ld (i := 2) (d := 0) (v := .inl k) rfl (fun _ => rfl) h2 rfl rfl ?_
        refine ex_ret (r := (some (.inl k), t109, n, 0)) rfl (fun _ => rfl) ?_
        have hty := sp_ty_d4 (S := S) (m := m) (p := p) hle hdi (by first | decide | omega)
        rw [show (k : Nat) = sp_rn S sp_di m p from hend.symm]
        exact ⟨_, rfl, t109, rfl, g109, e109, kq109, wv109, by rw [hty]; exact ka109, kb109, kw109, fun z => absurd hty z, Or.inr ⟨by rw [hty]; decide, (hw109.resolve_left (fun z => absurd z.1 (by decide))).2⟩⟩
    · refine gx_1f (c := .eq) rfl (by first | decide | omega) hc5 rfl ?_
      by_cases h8 : k - p < 4
      · have hvb : v < 10000 := by
          rw [hv (by first | decide | omega)]
          exact sp_hv10 (by first | decide | omega) (fun j9 h9 => ha _ (by first | decide | omega) (by first | decide | omega))
        refine gx_ld (i := 3) (d := 1) (v := .inr (.inl v)) rfl (fun _ => rfl) h3 rfl rfl ?_
        refine ex_go (S := (28, cl, [.inr (.inl 10), .inr (.inl v)], t0, n, 0)) rfl (fun _ => rfl) rfl ?_
        refine ex_go (S := (29, cl, [.inr (.inl ((lN v * lN 10).toBitVec.toNat))], t0, n, 0)) rfl (fun _ => rfl) rfl ?_
        rw [sp_lmul (by first | decide | omega)]
        refine gx_ld (i := 0) (d := 2) (v := gx_r 1) rfl (fun _ => rfl) h0 rfl rfl ?_
        refine gxo_ref (a := 1) (c := 2) rfl g0 rfl rfl rfl rfl rfl ?_
        refine gx_ld (i := 2) (d := 0) (v := .inl k) rfl (fun _ => rfl) h2 rfl rfl ?_
        refine gx_ag (v := .inl (S k)) (cb := fun c => Nat.beq c 2 || Nat.beq c 1) rfl (fun _ => rfl) g0 rfl rfl k1 (by first | decide | omega) rfl ?_
        refine ex_go (S := (37, cl, [.inl 48, .inl (S k), .inr (.inl (v * 10))], t0, n, 0)) rfl (fun _ => rfl) rfl ?_
        refine gx_isub rfl (by first | decide | omega) (by first | decide | omega) rfl ?_
        refine ex_go (S := (39, cl, [.inr (.inl ((nI ((S k) - 48)).toInt64.toBitVec.toNat)), .inr (.inl (v * 10))], t0, n, 0)) rfl (fun _ => rfl) rfl ?_
        rw [sp_i2l (by first | decide | omega)]
        refine ex_go (S := (40, cl, [.inr (.inl ((lN (v * 10) + lN ((S k) - 48)).toBitVec.toNat))], t0, n, 0)) rfl (fun _ => rfl) rfl ?_
        rw [sp_ladd (by first | decide | omega)]
        refine gx_sto (i := 3) (d := 1) rfl (fun _ => rfl) rfl rfl (fun l11 hl11 ml11 => ?_)
        have l11_0 : en_ld l11 0 = some (gx_r 1) := ml11 0 _ h0 rfl
        have l11_1 : en_ld l11 1 = some (.inl p) := ml11 1 _ h1 rfl
        have l11_2 : en_ld l11 2 = some (.inl k) := ml11 2 _ h2 rfl
        refine gx_incS (i := 2) (a := k) (x := 1) rfl (fun _ => rfl) l11_2 (by first | decide | omega) rfl (fun l12 hl12 ml12 => ?_)
        have l12_0 : en_ld l12 0 = some (gx_r 1) := ml12 0 _ l11_0 rfl
        have l12_1 : en_ld l12 1 = some (.inl p) := ml12 1 _ l11_1 rfl
        have l12_3 : en_ld l12 3 = some (.inr (.inl ((v * 10) + ((S k) - 48)))) := ml12 3 _ hl11 rfl
        refine ex_go (S := (4, l12, [], t0, n, 0)) rfl (fun _ => rfl) rfl ?_
        have hlt : sp_di (S k) = true := sp_di_iff.mpr (by first | decide | omega)
        have hvn : k + 1 - p ≤ 4 → (v * 10) + ((S k) - 48) = sp_hv S p 10 48 (k + 1 - p) := fun z => by
          rw [show k + 1 - p = k - p + 1 by omega, sp_hv_n hpk, ← hv (by first | decide | omega)]
          omega
        exact ih (k + 1) _ _ (by first | decide | omega) (by first | decide | omega) (hr.trans (sp_rn_t (by first | decide | omega) hlt)) (fun i z1 z2 => by
          by_cases e : i = k
          · rw [e]; exact hlt
          · exact ha i z1 (by first | decide | omega)) hvn l12_0 l12_1 hl12 l12_3
      · have := h8
        refine gx_ld (i := 3) (d := 1) (v := .inr (.inl v)) rfl (fun _ => rfl) h3 rfl rfl ?_
        refine ex_go (S := (28, cl, [.inr (.inl 10), .inr (.inl v)], t0, n, 0)) rfl (fun _ => rfl) rfl ?_
        refine ex_go (S := (29, cl, [.inr (.inl ((lN v * lN 10).toBitVec.toNat))], t0, n, 0)) rfl (fun _ => rfl) rfl ?_
        generalize (lN v * lN 10).toBitVec.toNat = z13
        refine gx_ld (i := 0) (d := 2) (v := gx_r 1) rfl (fun _ => rfl) h0 rfl rfl ?_
        refine gxo_ref (a := 1) (c := 2) rfl g0 rfl rfl rfl rfl rfl ?_
        refine gx_ld (i := 2) (d := 0) (v := .inl k) rfl (fun _ => rfl) h2 rfl rfl ?_
        refine gx_ag (v := .inl (S k)) (cb := fun c => Nat.beq c 2 || Nat.beq c 1) rfl (fun _ => rfl) g0 rfl rfl k1 (by first | decide | omega) rfl ?_
        refine ex_go (S := (37, cl, [.inl 48, .inl (S k), .inr (.inl z13)], t0, n, 0)) rfl (fun _ => rfl) rfl ?_
        refine gx_isub rfl (by first | decide | omega) (by first | decide | omega) rfl ?_
        refine ex_go (S := (39, cl, [.inr (.inl ((nI ((S k) - 48)).toInt64.toBitVec.toNat)), .inr (.inl z13)], t0, n, 0)) rfl (fun _ => rfl) rfl ?_
        rw [sp_i2l (by first | decide | omega)]
        refine ex_go (S := (40, cl, [.inr (.inl ((lN z13 + lN ((S k) - 48)).toBitVec.toNat))], t0, n, 0)) rfl (fun _ => rfl) rfl ?_
        generalize (lN z13 + lN ((S k) - 48)).toBitVec.toNat = z14
        refine gx_sto (i := 3) (d := 1) rfl (fun _ => rfl) rfl rfl (fun l15 hl15 ml15 => ?_)
        have l15_0 : en_ld l15 0 = some (gx_r 1) := ml15 0 _ h0 rfl
        have l15_1 : en_ld l15 1 = some (.inl p) := ml15 1 _ h1 rfl
        have l15_2 : en_ld l15 2 = some (.inl k) := ml15 2 _ h2 rfl
        refine gx_incS (i := 2) (a := k) (x := 1) rfl (fun _ => rfl) l15_2 (by first | decide | omega) rfl (fun l16 hl16 ml16 => ?_)
        have l16_0 : en_ld l16 0 = some (gx_r 1) := ml16 0 _ l15_0 rfl
        have l16_1 : en_ld l16 1 = some (.inl p) := ml16 1 _ l15_1 rfl
        have l16_3 : en_ld l16 3 = some (.inr (.inl z14)) := ml16 3 _ hl15 rfl
        refine ex_go (S := (4, l16, [], t0, n, 0)) rfl (fun _ => rfl) rfl ?_
        have hlt : sp_di (S k) = true := sp_di_iff.mpr (by first | decide | omega)
        have hvn : k + 1 - p ≤ 4 → z14 = sp_hv S p 10 48 (k + 1 - p) := fun z => by omega
        exact ih (k + 1) _ _ (by first | decide | omega) (by first | decide | omega) (hr.trans (sp_rn_t (by first | decide | omega) hlt)) (fun i z1 z2 => by
          by_cases e : i = k
          · rw [e]; exact hlt
          · exact ha i z1 (by first | decide | omega)) hvn l16_0 l16_1 hl16 l16_3
theorem pc_cutNumber (d n : Nat) {t0 : en_H} {S : Nat → Nat} {m p q : Nat} (g0 : ai_HG ah_G t0) (k0 : ai_hv t0 1 0 = some (.inl m)) (k7 : ai_hv t0 1 7 = some (.inl q)) (hm : m ≤ 1000) (hq : q ≤ 1000) (hS : ∀ i, i < m → ai_hv t0 2 i = some (.inl (S i)) ∧ S i ≤ 127) (hp : p < m) (hle : sp_le (S p) = false) (hdi : sp_di (S p) = true) : ∃ r, en_u (d + 3) 263 [gx_r 1, .inl p] t0 n = some r ∧ ∃ t', r = (some (.inl (sp_rn S sp_di m p)), t', n, 0) ∧ ai_HG ah_G t' ∧ (∀ c i, ¬ ((c = 1 ∧ i = 7) ∨ ((c = 3 ∨ c = 4 ∨ c = 5 ∨ c = 6) ∧ i = q)) → ai_hv t' c i = ai_hv t0 c i) ∧ ai_hv t' 1 7 = some (.inl (q + 1)) ∧ tC1 t' S m q p := by
  refine en_u_ex (d := d + 2) rfl ?_
  show en_ex _ _ _ _ (0, [(0, gx_r 1), (1, .inl p)], [], t0, n, 0) _
  refine ex_go (S := (1, [(0, gx_r 1), (1, .inl p)], [.inl p], t0, n, 0)) rfl (fun _ => rfl) rfl ?_
  refine ex_go (S := (2, [(2, .inl p), (0, gx_r 1), (1, .inl p)], [], t0, n, 0)) rfl (fun _ => rfl) rfl ?_
  refine ex_go (S := (3, [(2, .inl p), (0, gx_r 1), (1, .inl p)], [.inr (.inl 0)], t0, n, 0)) rfl (fun _ => rfl) rfl ?_
  refine ex_go (S := (4, [(3, .inr (.inl 0)), (2, .inl p), (0, gx_r 1), (1, .inl p)], [], t0, n, 0)) rfl (fun _ => rfl) rfl ?_
  exact ccutNumber_l d n g0 k0 k7 hm hq hS hp hle hdi (m - p) p 0 _ (by first | decide | omega) (by first | decide | omega) rfl (fun i z1 z2 => by omega) (fun _ => by rw [Nat.sub_self]; rfl) rfl rfl rfl rfl
theorem pc_cutToken (d n : Nat) {t0 : en_H} {S : Nat → Nat} {m p q : Nat} (g0 : ai_HG ah_G t0) (k0 : ai_hv t0 1 0 = some (.inl m)) (k7 : ai_hv t0 1 7 = some (.inl q)) (hm : m ≤ 1000) (hq : q ≤ 1000) (hS : ∀ i, i < m → ai_hv t0 2 i = some (.inl (S i)) ∧ S i ≤ 127) (hp : p < m) : ∃ r, en_u (d + 4) 223 [gx_r 1, .inl p] t0 n = some r ∧ ∃ t', r = (some (.inl (sp_te S m p)), t', n, 0) ∧ ai_HG ah_G t' ∧ (∀ c i, ¬ ((c = 1 ∧ i = 7) ∨ ((c = 3 ∨ c = 4 ∨ c = 5 ∨ c = 6) ∧ i = q)) → ai_hv t' c i = ai_hv t0 c i) ∧ ai_hv t' 1 7 = some (.inl (q + 1)) ∧ tC1 t' S m q p := by
  refine en_u_ex (d := d + 3) rfl ?_
  show en_ex _ _ _ _ (0, [(0, gx_r 1), (1, .inl p)], [], t0, n, 0) _
  refine ex_go (S := (1, [(0, gx_r 1), (1, .inl p)], [gx_r 1], t0, n, 0)) rfl (fun _ => rfl) rfl ?_
  refine gxo_ref (a := 1) (c := 2) rfl g0 rfl rfl rfl rfl rfl ?_
  refine ex_go (S := (5, [(0, gx_r 1), (1, .inl p)], [.inl p, gx_r 2], t0, n, 0)) rfl (fun _ => rfl) rfl ?_
  have k1 := (hS (p) (by first | decide | omega)).1
  have k1b := (hS (p) (by first | decide | omega)).2
  refine gx_ag (v := .inl (S p)) (cb := fun c => Nat.beq c 2 || Nat.beq c 1) rfl (fun _ => rfl) g0 rfl rfl k1 (by first | decide | omega) rfl ?_
  refine ex_go (S := (7, [(2, .inl (S p)), (0, gx_r 1), (1, .inl p)], [], t0, n, 0)) rfl (fun _ => rfl) rfl ?_
  refine ex_go (S := (8, [(2, .inl (S p)), (0, gx_r 1), (1, .inl p)], [.inl (S p)], t0, n, 0)) rfl (fun _ => rfl) rfl ?_
  obtain ⟨_, r2, b3, rfl, q4⟩ := pc_isLetter (d + 2) n (t0 := t0) (x := S p) (by first | decide | omega)
  refine ex_stat rfl rfl rfl rfl rfl r2 (Nat.le_refl _) rfl ?_
  show en_ex _ _ _ _ (11, [(2, .inl (S p)), (0, gx_r 1), (1, .inl p)], [.inl b3], t0, n, 0) _
  by_cases hc5 : b3 = 0
  · refine gx_1t (c := .eq) rfl (by first | decide | omega) hc5 rfl ?_
    refine ex_go (S := (21, [(2, .inl (S p)), (0, gx_r 1), (1, .inl p)], [.inl (S p)], t0, n, 0)) rfl (fun _ => rfl) rfl ?_
    obtain ⟨_, r6, b7, rfl, q8⟩ := pc_isDigit (d + 2) n (t0 := t0) (x := S p) (by first | decide | omega)
    refine ex_stat rfl rfl rfl rfl rfl r6 (Nat.le_refl _) rfl ?_
    show en_ex _ _ _ _ (24, [(2, .inl (S p)), (0, gx_r 1), (1, .inl p)], [.inl b7], t0, n, 0) _
    by_cases hc9 : b7 = 0
    · refine gx_1t (c := .eq) rfl (by first | decide | omega) hc9 rfl ?_
      refine ex_go (S := (34, [(2, .inl (S p)), (0, gx_r 1), (1, .inl p)], [.inl (S p)], t0, n, 0)) rfl (fun _ => rfl) rfl ?_
      refine ex_go (S := (36, [(2, .inl (S p)), (0, gx_r 1), (1, .inl p)], [.inl 40, .inl (S p)], t0, n, 0)) rfl (fun _ => rfl) rfl ?_
      by_cases hc10 : S p = 40
      · refine gx_2t (c := .eq) rfl (by first | decide | omega) (by first | decide | omega) hc10 rfl ?_
        refine ex_go (S := (82, [(2, .inl (S p)), (0, gx_r 1), (1, .inl p)], [.inl 1], t0, n, 0)) rfl (fun _ => rfl) rfl ?_
        refine ex_go (S := (86, [(2, .inl (S p)), (0, gx_r 1), (1, .inl p)], [.inl 1], t0, n, 0)) rfl (fun _ => rfl) rfl ?_
        refine ex_go (S := (87, [(3, .inl 1), (2, .inl (S p)), (0, gx_r 1), (1, .inl p)], [], t0, n, 0)) rfl (fun _ => rfl) rfl ?_
        refine ex_go (S := (88, [(3, .inl 1), (2, .inl (S p)), (0, gx_r 1), (1, .inl p)], [gx_r 1], t0, n, 0)) rfl (fun _ => rfl) rfl ?_
        refine ex_go (S := (89, [(3, .inl 1), (2, .inl (S p)), (0, gx_r 1), (1, .inl p)], [.inl 1, gx_r 1], t0, n, 0)) rfl (fun _ => rfl) rfl ?_
        refine ex_go (S := (92, [(3, .inl 1), (2, .inl (S p)), (0, gx_r 1), (1, .inl p)], [gx_r 1], t0, n, 0)) rfl (fun _ => rfl) rfl ?_
        refine ex_go (S := (93, [(3, .inl 1), (2, .inl (S p)), (0, gx_r 1), (1, .inl p)], [.inl 4, gx_r 1], t0, n, 0)) rfl (fun _ => rfl) rfl ?_
        refine ex_go (S := (97, [(3, .inl 1), (2, .inl (S p)), (0, gx_r 1), (1, .inl p)], [.inl 4, gx_r 1], t0, n, 0)) rfl (fun _ => rfl) rfl ?_
        refine ex_go (S := (98, [(3, .inl 1), (2, .inl (S p)), (0, gx_r 1), (1, .inl p)], [.inl p, .inl 4, gx_r 1], t0, n, 0)) rfl (fun _ => rfl) rfl ?_
        refine ex_go (S := (99, [(3, .inl 1), (2, .inl (S p)), (0, gx_r 1), (1, .inl p)], [.inl (S p), .inl p, .inl 4, gx_r 1], t0, n, 0)) rfl (fun _ => rfl) rfl ?_
        refine ex_go (S := (100, [(3, .inl 1), (2, .inl (S p)), (0, gx_r 1), (1, .inl p)], [.inr (.inl ((nI (S p)).toInt64.toBitVec.toNat)), .inl p, .inl 4, gx_r 1], t0, n, 0)) rfl (fun _ => rfl) rfl ?_
        rw [sp_i2l (by first | decide | omega)]
        obtain ⟨_, r111, t111, rfl, g111, e111, kq111, ka111, kb111, kc111, wv111, kw111, hw111⟩ := pk_addToken (d + 1) n (q := q) (ty := 4) (p := p) (v := S p) g0 (by first | decide | omega) (by first | decide | omega) (by first | decide | omega) k7
        refine gx_callo (a := 1) rfl rfl g0 rfl rfl rfl r111 rfl ?_
        have k12 : ai_hv t111 1 0 = some (.inl m) := (e111 1 0 (by first | decide | omega)).trans k0
        show en_ex _ _ _ _ (103, [(3, .inl 1), (2, .inl (S p)), (0, gx_r 1), (1, .inl p)], [], t111, n, 0) _
        refine ex_go (S := (104, [(3, .inl 1), (2, .inl (S p)), (0, gx_r 1), (1, .inl p)], [.inl p], t111, n, 0)) rfl (fun _ => rfl) rfl ?_
        refine ex_go (S := (105, [(3, .inl 1), (2, .inl (S p)), (0, gx_r 1), (1, .inl p)], [.inl 1, .inl p], t111, n, 0)) rfl (fun _ => rfl) rfl ?_
        refine ex_iadd rfl (by first | decide | omega) rfl ?_
        refine ex_ret (r := (some (.inl (p + 1)), t111, n, 0)) rfl (fun _ => rfl) ?_
        have hle : sp_le (S p) = false := sp_no (fun z => by have := sp_le_iff.mp z; omega)
        have hdi : sp_di (S p) = false := sp_no (fun z => by have := sp_di_iff.mp z; omega)
        have hte := sp_te_s (m := m) hle hdi
        have hvv := sp_vC_s (m := m) hle hdi
        have hty := sp_ty_s3 (m := m) hle hdi (sp_si_iff.mpr (by first | decide | omega))
        rw [← hte]
        exact ⟨_, rfl, t111, rfl, g111, e111, kq111, wv111, by rw [hty]; exact ka111, kb111, kw111, fun _ => by rw [hvv]; exact kc111, Or.inr ⟨by rw [hty]; decide, (hw111.resolve_left (fun z => absurd z.1 (by decide))).2⟩⟩
      · refine gx_2f (c := .eq) rfl (by first | decide | omega) (by first | decide | omega) hc10 rfl ?_
        refine ex_go (S := (40, [(2, .inl (S p)), (0, gx_r 1), (1, .inl p)], [.inl (S p)], t0, n, 0)) rfl (fun _ => rfl) rfl ?_
        refine ex_go (S := (42, [(2, .inl (S p)), (0, gx_r 1), (1, .inl p)], [.inl 41, .inl (S p)], t0, n, 0)) rfl (fun _ => rfl) rfl ?_
        by_cases hc13 : S p = 41
        · refine gx_2t (c := .eq) rfl (by first | decide | omega) (by first | decide | omega) hc13 rfl ?_
          refine ex_go (S := (82, [(2, .inl (S p)), (0, gx_r 1), (1, .inl p)], [.inl 1], t0, n, 0)) rfl (fun _ => rfl) rfl ?_
          refine ex_go (S := (86, [(2, .inl (S p)), (0, gx_r 1), (1, .inl p)], [.inl 1], t0, n, 0)) rfl (fun _ => rfl) rfl ?_
          refine ex_go (S := (87, [(3, .inl 1), (2, .inl (S p)), (0, gx_r 1), (1, .inl p)], [], t0, n, 0)) rfl (fun _ => rfl) rfl ?_
          refine ex_go (S := (88, [(3, .inl 1), (2, .inl (S p)), (0, gx_r 1), (1, .inl p)], [gx_r 1], t0, n, 0)) rfl (fun _ => rfl) rfl ?_
          refine ex_go (S := (89, [(3, .inl 1), (2, .inl (S p)), (0, gx_r 1), (1, .inl p)], [.inl 1, gx_r 1], t0, n, 0)) rfl (fun _ => rfl) rfl ?_
          refine ex_go (S := (92, [(3, .inl 1), (2, .inl (S p)), (0, gx_r 1), (1, .inl p)], [gx_r 1], t0, n, 0)) rfl (fun _ => rfl) rfl ?_
          refine ex_go (S := (93, [(3, .inl 1), (2, .inl (S p)), (0, gx_r 1), (1, .inl p)], [.inl 4, gx_r 1], t0, n, 0)) rfl (fun _ => rfl) rfl ?_
          refine ex_go (S := (97, [(3, .inl 1), (2, .inl (S p)), (0, gx_r 1), (1, .inl p)], [.inl 4, gx_r 1], t0, n, 0)) rfl (fun _ => rfl) rfl ?_
          refine ex_go (S := (98, [(3, .inl 1), (2, .inl (S p)), (0, gx_r 1), (1, .inl p)], [.inl p, .inl 4, gx_r 1], t0, n, 0)) rfl (fun _ => rfl) rfl ?_
          refine ex_go (S := (99, [(3, .inl 1), (2, .inl (S p)), (0, gx_r 1), (1, .inl p)], [.inl (S p), .inl p, .inl 4, gx_r 1], t0, n, 0)) rfl (fun _ => rfl) rfl ?_
          refine ex_go (S := (100, [(3, .inl 1), (2, .inl (S p)), (0, gx_r 1), (1, .inl p)], [.inr (.inl ((nI (S p)).toInt64.toBitVec.toNat)), .inl p, .inl 4, gx_r 1], t0, n, 0)) rfl (fun _ => rfl) rfl ?_
          rw [sp_i2l (by first | decide | omega)]
          obtain ⟨_, r114, t114, rfl, g114, e114, kq114, ka114, kb114, kc114, wv114, kw114, hw114⟩ := pk_addToken (d + 1) n (q := q) (ty := 4) (p := p) (v := S p) g0 (by first | decide | omega) (by first | decide | omega) (by first | decide | omega) k7
          refine gx_callo (a := 1) rfl rfl g0 rfl rfl rfl r114 rfl ?_
          have k15 : ai_hv t114 1 0 = some (.inl m) := (e114 1 0 (by first | decide | omega)).trans k0
          show en_ex _ _ _ _ (103, [(3, .inl 1), (2, .inl (S p)), (0, gx_r 1), (1, .inl p)], [], t114, n, 0) _
          refine ex_go (S := (104, [(3, .inl 1), (2, .inl (S p)), (0, gx_r 1), (1, .inl p)], [.inl p], t114, n, 0)) rfl (fun _ => rfl) rfl ?_
          refine ex_go (S := (105, [(3, .inl 1), (2, .inl (S p)), (0, gx_r 1), (1, .inl p)], [.inl 1, .inl p], t114, n, 0)) rfl (fun _ => rfl) rfl ?_
          refine ex_iadd rfl (by first | decide | omega) rfl ?_
          refine ex_ret (r := (some (.inl (p + 1)), t114, n, 0)) rfl (fun _ => rfl) ?_
          have hle : sp_le (S p) = false := sp_no (fun z => by have := sp_le_iff.mp z; omega)
          have hdi : sp_di (S p) = false := sp_no (fun z => by have := sp_di_iff.mp z; omega)
          have hte := sp_te_s (m := m) hle hdi
          have hvv := sp_vC_s (m := m) hle hdi
          have hty := sp_ty_s3 (m := m) hle hdi (sp_si_iff.mpr (by first | decide | omega))
          rw [← hte]
          exact ⟨_, rfl, t114, rfl, g114, e114, kq114, wv114, by rw [hty]; exact ka114, kb114, kw114, fun _ => by rw [hvv]; exact kc114, Or.inr ⟨by rw [hty]; decide, (hw114.resolve_left (fun z => absurd z.1 (by decide))).2⟩⟩
        · refine gx_2f (c := .eq) rfl (by first | decide | omega) (by first | decide | omega) hc13 rfl ?_
          refine ex_go (S := (46, [(2, .inl (S p)), (0, gx_r 1), (1, .inl p)], [.inl (S p)], t0, n, 0)) rfl (fun _ => rfl) rfl ?_
          refine ex_go (S := (48, [(2, .inl (S p)), (0, gx_r 1), (1, .inl p)], [.inl 60, .inl (S p)], t0, n, 0)) rfl (fun _ => rfl) rfl ?_
          by_cases hc16 : S p = 60
          · refine gx_2t (c := .eq) rfl (by first | decide | omega) (by first | decide | omega) hc16 rfl ?_
            refine ex_go (S := (82, [(2, .inl (S p)), (0, gx_r 1), (1, .inl p)], [.inl 1], t0, n, 0)) rfl (fun _ => rfl) rfl ?_
            refine ex_go (S := (86, [(2, .inl (S p)), (0, gx_r 1), (1, .inl p)], [.inl 1], t0, n, 0)) rfl (fun _ => rfl) rfl ?_
            refine ex_go (S := (87, [(3, .inl 1), (2, .inl (S p)), (0, gx_r 1), (1, .inl p)], [], t0, n, 0)) rfl (fun _ => rfl) rfl ?_
            refine ex_go (S := (88, [(3, .inl 1), (2, .inl (S p)), (0, gx_r 1), (1, .inl p)], [gx_r 1], t0, n, 0)) rfl (fun _ => rfl) rfl ?_
            refine ex_go (S := (89, [(3, .inl 1), (2, .inl (S p)), (0, gx_r 1), (1, .inl p)], [.inl 1, gx_r 1], t0, n, 0)) rfl (fun _ => rfl) rfl ?_
            refine ex_go (S := (92, [(3, .inl 1), (2, .inl (S p)), (0, gx_r 1), (1, .inl p)], [gx_r 1], t0, n, 0)) rfl (fun _ => rfl) rfl ?_
            refine ex_go (S := (93, [(3, .inl 1), (2, .inl (S p)), (0, gx_r 1), (1, .inl p)], [.inl 4, gx_r 1], t0, n, 0)) rfl (fun _ => rfl) rfl ?_
            refine ex_go (S := (97, [(3, .inl 1), (2, .inl (S p)), (0, gx_r 1), (1, .inl p)], [.inl 4, gx_r 1], t0, n, 0)) rfl (fun _ => rfl) rfl ?_
            refine ex_go (S := (98, [(3, .inl 1), (2, .inl (S p)), (0, gx_r 1), (1, .inl p)], [.inl p, .inl 4, gx_r 1], t0, n, 0)) rfl (fun _ => rfl) rfl ?_
            refine ex_go (S := (99, [(3, .inl 1), (2, .inl (S p)), (0, gx_r 1), (1, .inl p)], [.inl (S p), .inl p, .inl 4, gx_r 1], t0, n, 0)) rfl (fun _ => rfl) rfl ?_
            refine ex_go (S := (100, [(3, .inl 1), (2, .inl (S p)), (0, gx_r 1), (1, .inl p)], [.inr (.inl ((nI (S p)).toInt64.toBitVec.toNat)), .inl p, .inl 4, gx_r 1], t0, n, 0)) rfl (fun _ => rfl) rfl ?_
            rw [sp_i2l (by first | decide | omega)]
            obtain ⟨_, r117, t117, rfl, g117, e117, kq117, ka117, kb117, kc117, wv117, kw117, hw117⟩ := pk_addToken (d + 1) n (q := q) (ty := 4) (p := p) (v := S p) g0 (by first | decide | omega) (by first | decide | omega) (by first | decide | omega) k7
            refine gx_callo (a := 1) rfl rfl g0 rfl rfl rfl r117 rfl ?_
            have k18 : ai_hv t117 1 0 = some (.inl m) := (e117 1 0 (by first | decide | omega)).trans k0
            show en_ex _ _ _ _ (103, [(3, .inl 1), (2, .inl (S p)), (0, gx_r 1), (1, .inl p)], [], t117, n, 0) _
            refine ex_go (S := (104, [(3, .inl 1), (2, .inl (S p)), (0, gx_r 1), (1, .inl p)], [.inl p], t117, n, 0)) rfl (fun _ => rfl) rfl ?_
            refine ex_go (S := (105, [(3, .inl 1), (2, .inl (S p)), (0, gx_r 1), (1, .inl p)], [.inl 1, .inl p], t117, n, 0)) rfl (fun _ => rfl) rfl ?_
            refine ex_iadd rfl (by first | decide | omega) rfl ?_
            refine ex_ret (r := (some (.inl (p + 1)), t117, n, 0)) rfl (fun _ => rfl) ?_
            have hle : sp_le (S p) = false := sp_no (fun z => by have := sp_le_iff.mp z; omega)
            have hdi : sp_di (S p) = false := sp_no (fun z => by have := sp_di_iff.mp z; omega)
            have hte := sp_te_s (m := m) hle hdi
            have hvv := sp_vC_s (m := m) hle hdi
            have hty := sp_ty_s3 (m := m) hle hdi (sp_si_iff.mpr (by first | decide | omega))
            rw [← hte]
            exact ⟨_, rfl, t117, rfl, g117, e117, kq117, wv117, by rw [hty]; exact ka117, kb117, kw117, fun _ => by rw [hvv]; exact kc117, Or.inr ⟨by rw [hty]; decide, (hw117.resolve_left (fun z => absurd z.1 (by decide))).2⟩⟩
          · refine gx_2f (c := .eq) rfl (by first | decide | omega) (by first | decide | omega) hc16 rfl ?_
            refine ex_go (S := (52, [(2, .inl (S p)), (0, gx_r 1), (1, .inl p)], [.inl (S p)], t0, n, 0)) rfl (fun _ => rfl) rfl ?_
            refine ex_go (S := (54, [(2, .inl (S p)), (0, gx_r 1), (1, .inl p)], [.inl 61, .inl (S p)], t0, n, 0)) rfl (fun _ => rfl) rfl ?_
            by_cases hc19 : S p = 61
            · refine gx_2t (c := .eq) rfl (by first | decide | omega) (by first | decide | omega) hc19 rfl ?_
              refine ex_go (S := (82, [(2, .inl (S p)), (0, gx_r 1), (1, .inl p)], [.inl 1], t0, n, 0)) rfl (fun _ => rfl) rfl ?_
              refine ex_go (S := (86, [(2, .inl (S p)), (0, gx_r 1), (1, .inl p)], [.inl 1], t0, n, 0)) rfl (fun _ => rfl) rfl ?_
              refine ex_go (S := (87, [(3, .inl 1), (2, .inl (S p)), (0, gx_r 1), (1, .inl p)], [], t0, n, 0)) rfl (fun _ => rfl) rfl ?_
              refine ex_go (S := (88, [(3, .inl 1), (2, .inl (S p)), (0, gx_r 1), (1, .inl p)], [gx_r 1], t0, n, 0)) rfl (fun _ => rfl) rfl ?_
              refine ex_go (S := (89, [(3, .inl 1), (2, .inl (S p)), (0, gx_r 1), (1, .inl p)], [.inl 1, gx_r 1], t0, n, 0)) rfl (fun _ => rfl) rfl ?_
              refine ex_go (S := (92, [(3, .inl 1), (2, .inl (S p)), (0, gx_r 1), (1, .inl p)], [gx_r 1], t0, n, 0)) rfl (fun _ => rfl) rfl ?_
              refine ex_go (S := (93, [(3, .inl 1), (2, .inl (S p)), (0, gx_r 1), (1, .inl p)], [.inl 4, gx_r 1], t0, n, 0)) rfl (fun _ => rfl) rfl ?_
              refine ex_go (S := (97, [(3, .inl 1), (2, .inl (S p)), (0, gx_r 1), (1, .inl p)], [.inl 4, gx_r 1], t0, n, 0)) rfl (fun _ => rfl) rfl ?_
              refine ex_go (S := (98, [(3, .inl 1), (2, .inl (S p)), (0, gx_r 1), (1, .inl p)], [.inl p, .inl 4, gx_r 1], t0, n, 0)) rfl (fun _ => rfl) rfl ?_
              refine ex_go (S := (99, [(3, .inl 1), (2, .inl (S p)), (0, gx_r 1), (1, .inl p)], [.inl (S p), .inl p, .inl 4, gx_r 1], t0, n, 0)) rfl (fun _ => rfl) rfl ?_
              refine ex_go (S := (100, [(3, .inl 1), (2, .inl (S p)), (0, gx_r 1), (1, .inl p)], [.inr (.inl ((nI (S p)).toInt64.toBitVec.toNat)), .inl p, .inl 4, gx_r 1], t0, n, 0)) rfl (fun _ => rfl) rfl ?_
              rw [sp_i2l (by first | decide | omega)]
              obtain ⟨_, r120, t120, rfl, g120, e120, kq120, ka120, kb120, kc120, wv120, kw120, hw120⟩ := pk_addToken (d + 1) n (q := q) (ty := 4) (p := p) (v := S p) g0 (by first | decide | omega) (by first | decide | omega) (by first | decide | omega) k7
              refine gx_callo (a := 1) rfl rfl g0 rfl rfl rfl r120 rfl ?_
              have k21 : ai_hv t120 1 0 = some (.inl m) := (e120 1 0 (by first | decide | omega)).trans k0
              show en_ex _ _ _ _ (103, [(3, .inl 1), (2, .inl (S p)), (0, gx_r 1), (1, .inl p)], [], t120, n, 0) _
              refine ex_go (S := (104, [(3, .inl 1), (2, .inl (S p)), (0, gx_r 1), (1, .inl p)], [.inl p], t120, n, 0)) rfl (fun _ => rfl) rfl ?_
              refine ex_go (S := (105, [(3, .inl 1), (2, .inl (S p)), (0, gx_r 1), (1, .inl p)], [.inl 1, .inl p], t120, n, 0)) rfl (fun _ => rfl) rfl ?_
              refine ex_iadd rfl (by first | decide | omega) rfl ?_
              refine ex_ret (r := (some (.inl (p + 1)), t120, n, 0)) rfl (fun _ => rfl) ?_
              have hle : sp_le (S p) = false := sp_no (fun z => by have := sp_le_iff.mp z; omega)
              have hdi : sp_di (S p) = false := sp_no (fun z => by have := sp_di_iff.mp z; omega)
              have hte := sp_te_s (m := m) hle hdi
              have hvv := sp_vC_s (m := m) hle hdi
              have hty := sp_ty_s3 (m := m) hle hdi (sp_si_iff.mpr (by first | decide | omega))
              rw [← hte]
              exact ⟨_, rfl, t120, rfl, g120, e120, kq120, wv120, by rw [hty]; exact ka120, kb120, kw120, fun _ => by rw [hvv]; exact kc120, Or.inr ⟨by rw [hty]; decide, (hw120.resolve_left (fun z => absurd z.1 (by decide))).2⟩⟩
            · refine gx_2f (c := .eq) rfl (by first | decide | omega) (by first | decide | omega) hc19 rfl ?_
              refine ex_go (S := (58, [(2, .inl (S p)), (0, gx_r 1), (1, .inl p)], [.inl (S p)], t0, n, 0)) rfl (fun _ => rfl) rfl ?_
              refine ex_go (S := (60, [(2, .inl (S p)), (0, gx_r 1), (1, .inl p)], [.inl 43, .inl (S p)], t0, n, 0)) rfl (fun _ => rfl) rfl ?_
              by_cases hc22 : S p = 43
              · refine gx_2t (c := .eq) rfl (by first | decide | omega) (by first | decide | omega) hc22 rfl ?_
                refine ex_go (S := (82, [(2, .inl (S p)), (0, gx_r 1), (1, .inl p)], [.inl 1], t0, n, 0)) rfl (fun _ => rfl) rfl ?_
                refine ex_go (S := (86, [(2, .inl (S p)), (0, gx_r 1), (1, .inl p)], [.inl 1], t0, n, 0)) rfl (fun _ => rfl) rfl ?_
                refine ex_go (S := (87, [(3, .inl 1), (2, .inl (S p)), (0, gx_r 1), (1, .inl p)], [], t0, n, 0)) rfl (fun _ => rfl) rfl ?_
                refine ex_go (S := (88, [(3, .inl 1), (2, .inl (S p)), (0, gx_r 1), (1, .inl p)], [gx_r 1], t0, n, 0)) rfl (fun _ => rfl) rfl ?_
                refine ex_go (S := (89, [(3, .inl 1), (2, .inl (S p)), (0, gx_r 1), (1, .inl p)], [.inl 1, gx_r 1], t0, n, 0)) rfl (fun _ => rfl) rfl ?_
                refine ex_go (S := (92, [(3, .inl 1), (2, .inl (S p)), (0, gx_r 1), (1, .inl p)], [gx_r 1], t0, n, 0)) rfl (fun _ => rfl) rfl ?_
                refine ex_go (S := (93, [(3, .inl 1), (2, .inl (S p)), (0, gx_r 1), (1, .inl p)], [.inl 4, gx_r 1], t0, n, 0)) rfl (fun _ => rfl) rfl ?_
                refine ex_go (S := (97, [(3, .inl 1), (2, .inl (S p)), (0, gx_r 1), (1, .inl p)], [.inl 4, gx_r 1], t0, n, 0)) rfl (fun _ => rfl) rfl ?_
                refine ex_go (S := (98, [(3, .inl 1), (2, .inl (S p)), (0, gx_r 1), (1, .inl p)], [.inl p, .inl 4, gx_r 1], t0, n, 0)) rfl (fun _ => rfl) rfl ?_
                refine ex_go (S := (99, [(3, .inl 1), (2, .inl (S p)), (0, gx_r 1), (1, .inl p)], [.inl (S p), .inl p, .inl 4, gx_r 1], t0, n, 0)) rfl (fun _ => rfl) rfl ?_
                refine ex_go (S := (100, [(3, .inl 1), (2, .inl (S p)), (0, gx_r 1), (1, .inl p)], [.inr (.inl ((nI (S p)).toInt64.toBitVec.toNat)), .inl p, .inl 4, gx_r 1], t0, n, 0)) rfl (fun _ => rfl) rfl ?_
                rw [sp_i2l (by first | decide | omega)]
                obtain ⟨_, r123, t123, rfl, g123, e123, kq123, ka123, kb123, kc123, wv123, kw123, hw123⟩ := pk_addToken (d + 1) n (q := q) (ty := 4) (p := p) (v := S p) g0 (by first | decide | omega) (by first | decide | omega) (by first | decide | omega) k7
                refine gx_callo (a := 1) rfl rfl g0 rfl rfl rfl r123 rfl ?_
                have k24 : ai_hv t123 1 0 = some (.inl m) := (e123 1 0 (by first | decide | omega)).trans k0
                show en_ex _ _ _ _ (103, [(3, .inl 1), (2, .inl (S p)), (0, gx_r 1), (1, .inl p)], [], t123, n, 0) _
                refine ex_go (S := (104, [(3, .inl 1), (2, .inl (S p)), (0, gx_r 1), (1, .inl p)], [.inl p], t123, n, 0)) rfl (fun _ => rfl) rfl ?_
                refine ex_go (S := (105, [(3, .inl 1), (2, .inl (S p)), (0, gx_r 1), (1, .inl p)], [.inl 1, .inl p], t123, n, 0)) rfl (fun _ => rfl) rfl ?_
                refine ex_iadd rfl (by first | decide | omega) rfl ?_
                refine ex_ret (r := (some (.inl (p + 1)), t123, n, 0)) rfl (fun _ => rfl) ?_
                have hle : sp_le (S p) = false := sp_no (fun z => by have := sp_le_iff.mp z; omega)
                have hdi : sp_di (S p) = false := sp_no (fun z => by have := sp_di_iff.mp z; omega)
                have hte := sp_te_s (m := m) hle hdi
                have hvv := sp_vC_s (m := m) hle hdi
                have hty := sp_ty_s3 (m := m) hle hdi (sp_si_iff.mpr (by first | decide | omega))
                rw [← hte]
                exact ⟨_, rfl, t123, rfl, g123, e123, kq123, wv123, by rw [hty]; exact ka123, kb123, kw123, fun _ => by rw [hvv]; exact kc123, Or.inr ⟨by rw [hty]; decide, (hw123.resolve_left (fun z => absurd z.1 (by decide))).2⟩⟩
              · refine gx_2f (c := .eq) rfl (by first | decide | omega) (by first | decide | omega) hc22 rfl ?_
                refine ex_go (S := (64, [(2, .inl (S p)), (0, gx_r 1), (1, .inl p)], [.inl (S p)], t0, n, 0)) rfl (fun _ => rfl) rfl ?_
                refine ex_go (S := (66, [(2, .inl (S p)), (0, gx_r 1), (1, .inl p)], [.inl 45, .inl (S p)], t0, n, 0)) rfl (fun _ => rfl) rfl ?_
                by_cases hc25 : S p = 45
                · refine gx_2t (c := .eq) rfl (by first | decide | omega) (by first | decide | omega) hc25 rfl ?_
                  refine ex_go (S := (82, [(2, .inl (S p)), (0, gx_r 1), (1, .inl p)], [.inl 1], t0, n, 0)) rfl (fun _ => rfl) rfl ?_
                  refine ex_go (S := (86, [(2, .inl (S p)), (0, gx_r 1), (1, .inl p)], [.inl 1], t0, n, 0)) rfl (fun _ => rfl) rfl ?_
                  refine ex_go (S := (87, [(3, .inl 1), (2, .inl (S p)), (0, gx_r 1), (1, .inl p)], [], t0, n, 0)) rfl (fun _ => rfl) rfl ?_
                  refine ex_go (S := (88, [(3, .inl 1), (2, .inl (S p)), (0, gx_r 1), (1, .inl p)], [gx_r 1], t0, n, 0)) rfl (fun _ => rfl) rfl ?_
                  refine ex_go (S := (89, [(3, .inl 1), (2, .inl (S p)), (0, gx_r 1), (1, .inl p)], [.inl 1, gx_r 1], t0, n, 0)) rfl (fun _ => rfl) rfl ?_
                  refine ex_go (S := (92, [(3, .inl 1), (2, .inl (S p)), (0, gx_r 1), (1, .inl p)], [gx_r 1], t0, n, 0)) rfl (fun _ => rfl) rfl ?_
                  refine ex_go (S := (93, [(3, .inl 1), (2, .inl (S p)), (0, gx_r 1), (1, .inl p)], [.inl 4, gx_r 1], t0, n, 0)) rfl (fun _ => rfl) rfl ?_
                  refine ex_go (S := (97, [(3, .inl 1), (2, .inl (S p)), (0, gx_r 1), (1, .inl p)], [.inl 4, gx_r 1], t0, n, 0)) rfl (fun _ => rfl) rfl ?_
                  refine ex_go (S := (98, [(3, .inl 1), (2, .inl (S p)), (0, gx_r 1), (1, .inl p)], [.inl p, .inl 4, gx_r 1], t0, n, 0)) rfl (fun _ => rfl) rfl ?_
                  refine ex_go (S := (99, [(3, .inl 1), (2, .inl (S p)), (0, gx_r 1), (1, .inl p)], [.inl (S p), .inl p, .inl 4, gx_r 1], t0, n, 0)) rfl (fun _ => rfl) rfl ?_
                  refine ex_go (S := (100, [(3, .inl 1), (2, .inl (S p)), (0, gx_r 1), (1, .inl p)], [.inr (.inl ((nI (S p)).toInt64.toBitVec.toNat)), .inl p, .inl 4, gx_r 1], t0, n, 0)) rfl (fun _ => rfl) rfl ?_
                  rw [sp_i2l (by first | decide | omega)]
                  obtain ⟨_, r126, t126, rfl, g126, e126, kq126, ka126, kb126, kc126, wv126, kw126, hw126⟩ := pk_addToken (d + 1) n (q := q) (ty := 4) (p := p) (v := S p) g0 (by first | decide | omega) (by first | decide | omega) (by first | decide | omega) k7
                  refine gx_callo (a := 1) rfl rfl g0 rfl rfl rfl r126 rfl ?_
                  have k27 : ai_hv t126 1 0 = some (.inl m) := (e126 1 0 (by first | decide | omega)).trans k0
                  show en_ex _ _ _ _ (103, [(3, .inl 1), (2, .inl (S p)), (0, gx_r 1), (1, .inl p)], [], t126, n, 0) _
                  refine ex_go (S := (104, [(3, .inl 1), (2, .inl (S p)), (0, gx_r 1), (1, .inl p)], [.inl p], t126, n, 0)) rfl (fun _ => rfl) rfl ?_
                  refine ex_go (S := (105, [(3, .inl 1), (2, .inl (S p)), (0, gx_r 1), (1, .inl p)], [.inl 1, .inl p], t126, n, 0)) rfl (fun _ => rfl) rfl ?_
                  refine ex_iadd rfl (by first | decide | omega) rfl ?_
                  refine ex_ret (r := (some (.inl (p + 1)), t126, n, 0)) rfl (fun _ => rfl) ?_
                  have hle : sp_le (S p) = false := sp_no (fun z => by have := sp_le_iff.mp z; omega)
                  have hdi : sp_di (S p) = false := sp_no (fun z => by have := sp_di_iff.mp z; omega)
                  have hte := sp_te_s (m := m) hle hdi
                  have hvv := sp_vC_s (m := m) hle hdi
                  have hty := sp_ty_s3 (m := m) hle hdi (sp_si_iff.mpr (by first | decide | omega))
                  rw [← hte]
                  exact ⟨_, rfl, t126, rfl, g126, e126, kq126, wv126, by rw [hty]; exact ka126, kb126, kw126, fun _ => by rw [hvv]; exact kc126, Or.inr ⟨by rw [hty]; decide, (hw126.resolve_left (fun z => absurd z.1 (by decide))).2⟩⟩
                · refine gx_2f (c := .eq) rfl (by first | decide | omega) (by first | decide | omega) hc25 rfl ?_
                  refine ex_go (S := (70, [(2, .inl (S p)), (0, gx_r 1), (1, .inl p)], [.inl (S p)], t0, n, 0)) rfl (fun _ => rfl) rfl ?_
                  refine ex_go (S := (72, [(2, .inl (S p)), (0, gx_r 1), (1, .inl p)], [.inl 42, .inl (S p)], t0, n, 0)) rfl (fun _ => rfl) rfl ?_
                  by_cases hc28 : S p = 42
                  · refine gx_2t (c := .eq) rfl (by first | decide | omega) (by first | decide | omega) hc28 rfl ?_
                    refine ex_go (S := (82, [(2, .inl (S p)), (0, gx_r 1), (1, .inl p)], [.inl 1], t0, n, 0)) rfl (fun _ => rfl) rfl ?_
                    refine ex_go (S := (86, [(2, .inl (S p)), (0, gx_r 1), (1, .inl p)], [.inl 1], t0, n, 0)) rfl (fun _ => rfl) rfl ?_
                    refine ex_go (S := (87, [(3, .inl 1), (2, .inl (S p)), (0, gx_r 1), (1, .inl p)], [], t0, n, 0)) rfl (fun _ => rfl) rfl ?_
                    refine ex_go (S := (88, [(3, .inl 1), (2, .inl (S p)), (0, gx_r 1), (1, .inl p)], [gx_r 1], t0, n, 0)) rfl (fun _ => rfl) rfl ?_
                    refine ex_go (S := (89, [(3, .inl 1), (2, .inl (S p)), (0, gx_r 1), (1, .inl p)], [.inl 1, gx_r 1], t0, n, 0)) rfl (fun _ => rfl) rfl ?_
                    refine ex_go (S := (92, [(3, .inl 1), (2, .inl (S p)), (0, gx_r 1), (1, .inl p)], [gx_r 1], t0, n, 0)) rfl (fun _ => rfl) rfl ?_
                    refine ex_go (S := (93, [(3, .inl 1), (2, .inl (S p)), (0, gx_r 1), (1, .inl p)], [.inl 4, gx_r 1], t0, n, 0)) rfl (fun _ => rfl) rfl ?_
                    refine ex_go (S := (97, [(3, .inl 1), (2, .inl (S p)), (0, gx_r 1), (1, .inl p)], [.inl 4, gx_r 1], t0, n, 0)) rfl (fun _ => rfl) rfl ?_
                    refine ex_go (S := (98, [(3, .inl 1), (2, .inl (S p)), (0, gx_r 1), (1, .inl p)], [.inl p, .inl 4, gx_r 1], t0, n, 0)) rfl (fun _ => rfl) rfl ?_
                    refine ex_go (S := (99, [(3, .inl 1), (2, .inl (S p)), (0, gx_r 1), (1, .inl p)], [.inl (S p), .inl p, .inl 4, gx_r 1], t0, n, 0)) rfl (fun _ => rfl) rfl ?_
                    refine ex_go (S := (100, [(3, .inl 1), (2, .inl (S p)), (0, gx_r 1), (1, .inl p)], [.inr (.inl ((nI (S p)).toInt64.toBitVec.toNat)), .inl p, .inl 4, gx_r 1], t0, n, 0)) rfl (fun _ => rfl) rfl ?_
                    rw [sp_i2l (by first | decide | omega)]
                    obtain ⟨_, r129, t129, rfl, g129, e129, kq129, ka129, kb129, kc129, wv129, kw129, hw129⟩ := pk_addToken (d + 1) n (q := q) (ty := 4) (p := p) (v := S p) g0 (by first | decide | omega) (by first | decide | omega) (by first | decide | omega) k7
                    refine gx_callo (a := 1) rfl rfl g0 rfl rfl rfl r129 rfl ?_
                    have k30 : ai_hv t129 1 0 = some (.inl m) := (e129 1 0 (by first | decide | omega)).trans k0
                    show en_ex _ _ _ _ (103, [(3, .inl 1), (2, .inl (S p)), (0, gx_r 1), (1, .inl p)], [], t129, n, 0) _
                    refine ex_go (S := (104, [(3, .inl 1), (2, .inl (S p)), (0, gx_r 1), (1, .inl p)], [.inl p], t129, n, 0)) rfl (fun _ => rfl) rfl ?_
                    refine ex_go (S := (105, [(3, .inl 1), (2, .inl (S p)), (0, gx_r 1), (1, .inl p)], [.inl 1, .inl p], t129, n, 0)) rfl (fun _ => rfl) rfl ?_
                    refine ex_iadd rfl (by first | decide | omega) rfl ?_
                    refine ex_ret (r := (some (.inl (p + 1)), t129, n, 0)) rfl (fun _ => rfl) ?_
                    have hle : sp_le (S p) = false := sp_no (fun z => by have := sp_le_iff.mp z; omega)
                    have hdi : sp_di (S p) = false := sp_no (fun z => by have := sp_di_iff.mp z; omega)
                    have hte := sp_te_s (m := m) hle hdi
                    have hvv := sp_vC_s (m := m) hle hdi
                    have hty := sp_ty_s3 (m := m) hle hdi (sp_si_iff.mpr (by first | decide | omega))
                    rw [← hte]
                    exact ⟨_, rfl, t129, rfl, g129, e129, kq129, wv129, by rw [hty]; exact ka129, kb129, kw129, fun _ => by rw [hvv]; exact kc129, Or.inr ⟨by rw [hty]; decide, (hw129.resolve_left (fun z => absurd z.1 (by decide))).2⟩⟩
                  · refine gx_2f (c := .eq) rfl (by first | decide | omega) (by first | decide | omega) hc28 rfl ?_
                    refine ex_go (S := (76, [(2, .inl (S p)), (0, gx_r 1), (1, .inl p)], [.inl (S p)], t0, n, 0)) rfl (fun _ => rfl) rfl ?_
                    refine ex_go (S := (78, [(2, .inl (S p)), (0, gx_r 1), (1, .inl p)], [.inl 59, .inl (S p)], t0, n, 0)) rfl (fun _ => rfl) rfl ?_
                    by_cases hc31 : S p ≠ 59
                    · refine gx_2t (c := .ne) rfl (by first | decide | omega) (by first | decide | omega) hc31 rfl ?_
                      refine ex_go (S := (86, [(2, .inl (S p)), (0, gx_r 1), (1, .inl p)], [.inl 0], t0, n, 0)) rfl (fun _ => rfl) rfl ?_
                      refine ex_go (S := (87, [(3, .inl 0), (2, .inl (S p)), (0, gx_r 1), (1, .inl p)], [], t0, n, 0)) rfl (fun _ => rfl) rfl ?_
                      refine ex_go (S := (88, [(3, .inl 0), (2, .inl (S p)), (0, gx_r 1), (1, .inl p)], [gx_r 1], t0, n, 0)) rfl (fun _ => rfl) rfl ?_
                      refine ex_go (S := (89, [(3, .inl 0), (2, .inl (S p)), (0, gx_r 1), (1, .inl p)], [.inl 0, gx_r 1], t0, n, 0)) rfl (fun _ => rfl) rfl ?_
                      refine ex_go (S := (96, [(3, .inl 0), (2, .inl (S p)), (0, gx_r 1), (1, .inl p)], [gx_r 1], t0, n, 0)) rfl (fun _ => rfl) rfl ?_
                      refine ex_go (S := (97, [(3, .inl 0), (2, .inl (S p)), (0, gx_r 1), (1, .inl p)], [.inl 1, gx_r 1], t0, n, 0)) rfl (fun _ => rfl) rfl ?_
                      refine ex_go (S := (98, [(3, .inl 0), (2, .inl (S p)), (0, gx_r 1), (1, .inl p)], [.inl p, .inl 1, gx_r 1], t0, n, 0)) rfl (fun _ => rfl) rfl ?_
                      refine ex_go (S := (99, [(3, .inl 0), (2, .inl (S p)), (0, gx_r 1), (1, .inl p)], [.inl (S p), .inl p, .inl 1, gx_r 1], t0, n, 0)) rfl (fun _ => rfl) rfl ?_
                      refine ex_go (S := (100, [(3, .inl 0), (2, .inl (S p)), (0, gx_r 1), (1, .inl p)], [.inr (.inl ((nI (S p)).toInt64.toBitVec.toNat)), .inl p, .inl 1, gx_r 1], t0, n, 0)) rfl (fun _ => rfl) rfl ?_
                      rw [sp_i2l (by first | decide | omega)]
                      obtain ⟨_, r132, t132, rfl, g132, e132, kq132, ka132, kb132, kc132, wv132, kw132, hw132⟩ := pk_addToken (d + 1) n (q := q) (ty := 1) (p := p) (v := S p) g0 (by first | decide | omega) (by first | decide | omega) (by first | decide | omega) k7
                      refine gx_callo (a := 1) rfl rfl g0 rfl rfl rfl r132 rfl ?_
                      have k33 : ai_hv t132 1 0 = some (.inl m) := (e132 1 0 (by first | decide | omega)).trans k0
                      show en_ex _ _ _ _ (103, [(3, .inl 0), (2, .inl (S p)), (0, gx_r 1), (1, .inl p)], [], t132, n, 0) _
                      refine ex_go (S := (104, [(3, .inl 0), (2, .inl (S p)), (0, gx_r 1), (1, .inl p)], [.inl p], t132, n, 0)) rfl (fun _ => rfl) rfl ?_
                      refine ex_go (S := (105, [(3, .inl 0), (2, .inl (S p)), (0, gx_r 1), (1, .inl p)], [.inl 1, .inl p], t132, n, 0)) rfl (fun _ => rfl) rfl ?_
                      refine ex_iadd rfl (by first | decide | omega) rfl ?_
                      refine ex_ret (r := (some (.inl (p + 1)), t132, n, 0)) rfl (fun _ => rfl) ?_
                      have hle : sp_le (S p) = false := sp_no (fun z => by have := sp_le_iff.mp z; omega)
                      have hdi : sp_di (S p) = false := sp_no (fun z => by have := sp_di_iff.mp z; omega)
                      have hte := sp_te_s (m := m) hle hdi
                      have hvv := sp_vC_s (m := m) hle hdi
                      have hty := sp_ty_s4 (m := m) hle hdi (sp_no (fun z => by have := sp_si_iff.mp z; omega))
                      rw [← hte]
                      exact ⟨_, rfl, t132, rfl, g132, e132, kq132, wv132, by rw [hty]; exact ka132, kb132, kw132, fun _ => by rw [hvv]; exact kc132, Or.inr ⟨by rw [hty]; decide, (hw132.resolve_left (fun z => absurd z.1 (by decide))).2⟩⟩
                    · refine gx_2f (c := .ne) rfl (by first | decide | omega) (by first | decide | omega) hc31 rfl ?_
                      refine ex_go (S := (82, [(2, .inl (S p)), (0, gx_r 1), (1, .inl p)], [.inl 1], t0, n, 0)) rfl (fun _ => rfl) rfl ?_
                      refine ex_go (S := (86, [(2, .inl (S p)), (0, gx_r 1), (1, .inl p)], [.inl 1], t0, n, 0)) rfl (fun _ => rfl) rfl ?_
                      refine ex_go (S := (87, [(3, .inl 1), (2, .inl (S p)), (0, gx_r 1), (1, .inl p)], [], t0, n, 0)) rfl (fun _ => rfl) rfl ?_
                      refine ex_go (S := (88, [(3, .inl 1), (2, .inl (S p)), (0, gx_r 1), (1, .inl p)], [gx_r 1], t0, n, 0)) rfl (fun _ => rfl) rfl ?_
                      refine ex_go (S := (89, [(3, .inl 1), (2, .inl (S p)), (0, gx_r 1), (1, .inl p)], [.inl 1, gx_r 1], t0, n, 0)) rfl (fun _ => rfl) rfl ?_
                      refine ex_go (S := (92, [(3, .inl 1), (2, .inl (S p)), (0, gx_r 1), (1, .inl p)], [gx_r 1], t0, n, 0)) rfl (fun _ => rfl) rfl ?_
                      refine ex_go (S := (93, [(3, .inl 1), (2, .inl (S p)), (0, gx_r 1), (1, .inl p)], [.inl 4, gx_r 1], t0, n, 0)) rfl (fun _ => rfl) rfl ?_
                      refine ex_go (S := (97, [(3, .inl 1), (2, .inl (S p)), (0, gx_r 1), (1, .inl p)], [.inl 4, gx_r 1], t0, n, 0)) rfl (fun _ => rfl) rfl ?_
                      refine ex_go (S := (98, [(3, .inl 1), (2, .inl (S p)), (0, gx_r 1), (1, .inl p)], [.inl p, .inl 4, gx_r 1], t0, n, 0)) rfl (fun _ => rfl) rfl ?_
                      refine ex_go (S := (99, [(3, .inl 1), (2, .inl (S p)), (0, gx_r 1), (1, .inl p)], [.inl (S p), .inl p, .inl 4, gx_r 1], t0, n, 0)) rfl (fun _ => rfl) rfl ?_
                      refine ex_go (S := (100, [(3, .inl 1), (2, .inl (S p)), (0, gx_r 1), (1, .inl p)], [.inr (.inl ((nI (S p)).toInt64.toBitVec.toNat)), .inl p, .inl 4, gx_r 1], t0, n, 0)) rfl (fun _ => rfl) rfl ?_
                      rw [sp_i2l (by first | decide | omega)]
                      obtain ⟨_, r134, t134, rfl, g134, e134, kq134, ka134, kb134, kc134, wv134, kw134, hw134⟩ := pk_addToken (d + 1) n (q := q) (ty := 4) (p := p) (v := S p) g0 (by first | decide | omega) (by first | decide | omega) (by first | decide | omega) k7
                      refine gx_callo (a := 1) rfl rfl g0 rfl rfl rfl r134 rfl ?_
                      have k35 : ai_hv t134 1 0 = some (.inl m) := (e134 1 0 (by first | decide | omega)).trans k0
                      show en_ex _ _ _ _ (103, [(3, .inl 1), (2, .inl (S p)), (0, gx_r 1), (1, .inl p)], [], t134, n, 0) _
                      refine ex_go (S := (104, [(3, .inl 1), (2, .inl (S p)), (0, gx_r 1), (1, .inl p)], [.inl p], t134, n, 0)) rfl (fun _ => rfl) rfl ?_
                      refine ex_go (S := (105, [(3, .inl 1), (2, .inl (S p)), (0, gx_r 1), (1, .inl p)], [.inl 1, .inl p], t134, n, 0)) rfl (fun _ => rfl) rfl ?_
                      refine ex_iadd rfl (by first | decide | omega) rfl ?_
                      refine ex_ret (r := (some (.inl (p + 1)), t134, n, 0)) rfl (fun _ => rfl) ?_
                      have hle : sp_le (S p) = false := sp_no (fun z => by have := sp_le_iff.mp z; omega)
                      have hdi : sp_di (S p) = false := sp_no (fun z => by have := sp_di_iff.mp z; omega)
                      have hte := sp_te_s (m := m) hle hdi
                      have hvv := sp_vC_s (m := m) hle hdi
                      have hty := sp_ty_s3 (m := m) hle hdi (sp_si_iff.mpr (by first | decide | omega))
                      rw [← hte]
                      exact ⟨_, rfl, t134, rfl, g134, e134, kq134, wv134, by rw [hty]; exact ka134, kb134, kw134, fun _ => by rw [hvv]; exact kc134, Or.inr ⟨by rw [hty]; decide, (hw134.resolve_left (fun z => absurd z.1 (by decide))).2⟩⟩
    · refine gx_1f (c := .eq) rfl (by first | decide | omega) hc9 rfl ?_
      refine ex_go (S := (28, [(2, .inl (S p)), (0, gx_r 1), (1, .inl p)], [gx_r 1], t0, n, 0)) rfl (fun _ => rfl) rfl ?_
      refine ex_go (S := (29, [(2, .inl (S p)), (0, gx_r 1), (1, .inl p)], [.inl p, gx_r 1], t0, n, 0)) rfl (fun _ => rfl) rfl ?_
      have hle : sp_le (S p) = false := sp_no (fun z => by have := sp_le_iff.mp z; omega)
      have hdi : sp_di (S p) = true := sp_di_iff.mpr (by first | decide | omega)
      obtain ⟨_, r136, t136, rfl, g136, e136, kq136, tc136⟩ := pc_cutNumber d n g0 k0 k7 hm hq hS hp hle hdi
      have hte := sp_te_d hle hdi (m := m)
      refine gx_callo (a := 1) rfl rfl g0 rfl rfl rfl r136 rfl ?_
      show en_ex _ _ _ _ (32, [(2, .inl (S p)), (0, gx_r 1), (1, .inl p)], [.inl (sp_rn S sp_di m p)], t136, n, 0) _
      refine ex_ret (r := (some (.inl (sp_rn S sp_di m p)), t136, n, 0)) rfl (fun _ => rfl) ?_
      rw [← hte]
      exact ⟨_, rfl, t136, rfl, g136, e136, kq136, tc136⟩
  · refine gx_1f (c := .eq) rfl (by first | decide | omega) hc5 rfl ?_
    refine ex_go (S := (15, [(2, .inl (S p)), (0, gx_r 1), (1, .inl p)], [gx_r 1], t0, n, 0)) rfl (fun _ => rfl) rfl ?_
    refine ex_go (S := (16, [(2, .inl (S p)), (0, gx_r 1), (1, .inl p)], [.inl p, gx_r 1], t0, n, 0)) rfl (fun _ => rfl) rfl ?_
    have hle : sp_le (S p) = true := sp_le_iff.mpr (by first | decide | omega)
    obtain ⟨_, r137, t137, rfl, g137, e137, kq137, tc137⟩ := pc_cutWord d n g0 k0 k7 hm hq hS hp hle
    have hte := sp_te_l hle (m := m)
    refine gx_callo (a := 1) rfl rfl g0 rfl rfl rfl r137 rfl ?_
    show en_ex _ _ _ _ (19, [(2, .inl (S p)), (0, gx_r 1), (1, .inl p)], [.inl (sp_rn S sp_le m p)], t137, n, 0) _
    refine ex_ret (r := (some (.inl (sp_rn S sp_le m p)), t137, n, 0)) rfl (fun _ => rfl) ?_
    rw [← hte]
    exact ⟨_, rfl, t137, rfl, g137, e137, kq137, tc137⟩
/-- the class's tokens, the first nn of them -/
noncomputable def tC (t : en_H) (S : Nat → Nat) (m nn : Nat) : Prop := ∀ j, j < nn → sp_st S m j < m ∧ tC1 t S m j (sp_st S m j)
theorem tC_next {t t' : en_H} {S : Nat → Nat} {m nn k : Nat} (h : tC t S m nn) (hs : sp_st S m nn = k) (hk : k < m) (e : ∀ c i, c ≠ 1 → i < nn → ai_hv t' c i = ai_hv t c i) (h1 : tC1 t' S m nn k) : tC t' S m (nn + 1) := fun j hj => by
  by_cases e9 : j = nn
  · subst e9
    rw [hs]
    exact ⟨hk, h1⟩
  · obtain ⟨z1, z2⟩ := h j (by first | decide | omega)
    exact ⟨z1, tC1_keep z2 (fun c hc => e c j (by first | decide | omega) (by first | decide | omega))⟩
theorem tC_keep {t t' : en_H} {S : Nat → Nat} {m nn : Nat} (h : tC t S m nn) (e : ∀ c i, c ≠ 1 → i < nn → ai_hv t' c i = ai_hv t c i) : tC t' S m nn := fun j hj => by
  obtain ⟨z1, z2⟩ := h j hj
  exact ⟨z1, tC1_keep z2 (fun c hc => e c j (by first | decide | omega) hj)⟩
theorem cc_out (d n : Nat) {tb : en_H} {S : Nat → Nat} {m : Nat} (hm : m ≤ 1000) (hSb : ∀ i, i < m → ai_hv tb 2 i = some (.inl (S i)) ∧ S i ≤ 127) : ∀ j k ii nn cl t0, m ≤ k + j → k ≤ m → nn ≤ k → ii ≤ k → ai_HG ah_G t0 → ai_hv t0 1 0 = some (.inl m) → ai_hv t0 1 7 = some (.inl nn) → ai_hv t0 1 1 = some (.inl 0) → ai_hv t0 1 8 = some (.inl 0) → (∀ c i, ¬ ((c = 1 ∧ (i = 0 ∨ i = 1 ∨ i = 7 ∨ i = 8)) ∨ c = 3 ∨ c = 4 ∨ c = 5 ∨ c = 6) → ai_hv t0 c i = ai_hv tb c i) → sp_nx S m k = sp_st S m nn → tC t0 S m nn → en_ld cl 0 = some (gx_r 1) → en_ld cl 1 = some (.inl k) → en_ld cl 2 = some (.inl ii) → en_ex none (en_u (d + 4)) (en_code 173) (fun _ => false) (19, cl, [], t0, n, 0) (fun o => ∃ r, o = .inl r ∧ ∃ t', r = (none, t', n, 0) ∧ ai_HG ah_G t' ∧ ai_hv t' 1 0 = some (.inl 0) ∧ ai_hv t' 1 1 = some (.inl 0) ∧ ai_hv t' 1 8 = some (.inl 0) ∧ (∀ c i, ¬ ((c = 1 ∧ (i = 0 ∨ i = 1 ∨ i = 7 ∨ i = 8)) ∨ c = 3 ∨ c = 4 ∨ c = 5 ∨ c = 6) → ai_hv t' c i = ai_hv tb c i) ∧ ∃ N, N ≤ m ∧ tC t' S m N ∧ sp_st S m N = m ∧ ai_hv t' 3 N = some (.inl 0) ∧ ai_hv t' 4 N = some (.inl m) ∧ ai_hv t' 6 N = some (.inr (.inr (.inl none))) ∧ ai_hv t' 1 7 = some (.inl (N + 1))) := by
  intro j
  induction j with
  | zero =>
    intro k ii nn cl t0 hj hk hn hii g0 km k7 k1 k8 e0 hx hT h0 h1 h2
    have hS : ∀ i, i < m → ai_hv t0 2 i = some (.inl (S i)) ∧ S i ≤ 127 := fun i hi => ⟨(e0 2 i (by first | decide | omega)).trans (hSb i hi).1, (hSb i hi).2⟩
    refine gx_ld (i := 2) (d := 0) (v := .inl ii) rfl (fun _ => rfl) h2 rfl rfl ?_
    refine ex_go (S := (23, cl, [.inl 1000, .inl ii], t0, n, 0)) rfl (fun _ => rfl) rfl ?_
    by_cases hc1 : 1000 ≤ ii
    · refine gx_2t (c := .ge) rfl (by first | decide | omega) (by first | decide | omega) hc1 rfl ?_
      refine gx_ld (i := 0) (d := 2) (v := gx_r 1) rfl (fun _ => rfl) h0 rfl rfl ?_
      refine ex_go (S := (66, cl, [.inl 0, gx_r 1], t0, n, 0)) rfl (fun _ => rfl) rfl ?_
      refine gx_ld (i := 0) (d := 2) (v := gx_r 1) rfl (fun _ => rfl) h0 rfl rfl ?_
      refine gxo_get (a := 1) rfl g0 rfl rfl km rfl ?_
      refine ex_go (S := (71, cl, [.inr (.inl 0), .inl m, .inl 0, gx_r 1], t0, n, 0)) rfl (fun _ => rfl) rfl ?_
      obtain ⟨_, r102, t102, rfl, g102, e102, kq102, ka102, kb102, kc102, wv102, kw102, hw102⟩ := pk_addToken (d + 2) n (q := nn) (ty := 0) (p := m) (v := 0) g0 (by first | decide | omega) (by first | decide | omega) (by first | decide | omega) k7
      refine gx_callo (a := 1) rfl rfl g0 rfl rfl rfl r102 rfl ?_
      have k3 : ai_hv t102 1 0 = some (.inl m) := (e102 1 0 (by first | decide | omega)).trans km
      have k4 : ai_hv t102 1 1 = some (.inl 0) := (e102 1 1 (by first | decide | omega)).trans k1
      have k5 : ai_hv t102 1 8 = some (.inl 0) := (e102 1 8 (by first | decide | omega)).trans k8
      show en_ex _ _ _ _ (74, cl, [], t102, n, 0) _
      refine gx_ld (i := 0) (d := 2) (v := gx_r 1) rfl (fun _ => rfl) h0 rfl rfl ?_
      refine ex_go (S := (76, cl, [.inl 0, gx_r 1], t102, n, 0)) rfl (fun _ => rfl) rfl ?_
      refine gxo_put (a := 1) rfl g102 rfl rfl rfl (ai_in_h (by first | decide | omega) (by first | decide | omega) (by first | decide | omega)) rfl (fun t106 g106 k106 e106 => ?_)
      have k7 : ai_hv t106 1 1 = some (.inl 0) := (e106 1 1 (by first | decide | omega)).trans k4
      have k8 : ai_hv t106 1 8 = some (.inl 0) := (e106 1 8 (by first | decide | omega)).trans k5
      have k9 : ai_hv t106 1 7 = some (.inl (nn + 1)) := (e106 1 7 (by first | decide | omega)).trans kq102
      have k10 : ai_hv t106 3 nn = some (.inl 0) := (e106 3 nn (by first | decide | omega)).trans ka102
      have k11 : ai_hv t106 4 nn = some (.inl m) := (e106 4 nn (by first | decide | omega)).trans kb102
      have k12 : ai_hv t106 6 nn = some (wv102) := (e106 6 nn (by first | decide | omega)).trans kw102
      refine ex_ret (r := (none, t106, n, 0)) rfl (fun _ => rfl) ?_
      have hend : sp_st S m nn = m := by
        rw [← hx, show k = m by omega]
        exact sp_rn_end S sp_bl (Nat.le_refl _)
      have hwn : wv102 = .inr (.inr (.inl none)) := (hw102.resolve_left (fun z => absurd z.1 (by decide))).2
      subst hwn
      exact ⟨_, rfl, t106, rfl, g106, k106, k7, k8, (fun c i h => (e106 c i (by first | decide | omega)).trans ((e102 c i (by first | decide | omega)).trans (e0 c i h))), nn, by omega, tC_keep hT (fun c i h h9 => (e106 c i (by first | decide | omega)).trans (e102 c i (by first | decide | omega))), hend, k10, k11, k12, k9⟩
    · refine gx_2f (c := .ge) rfl (by first | decide | omega) (by first | decide | omega) hc1 rfl ?_
      refine gx_ld (i := 1) (d := 0) (v := .inl k) rfl (fun _ => rfl) h1 rfl rfl ?_
      refine gx_ld (i := 0) (d := 2) (v := gx_r 1) rfl (fun _ => rfl) h0 rfl rfl ?_
      refine gxo_get (a := 1) rfl g0 rfl rfl km rfl ?_
      refine gx_2t (c := .ge) rfl (by first | decide | omega) (by first | decide | omega) (show m ≤ k from by omega) rfl ?_
      refine gx_ld (i := 0) (d := 2) (v := gx_r 1) rfl (fun _ => rfl) h0 rfl rfl ?_
      refine ex_go (S := (66, cl, [.inl 0, gx_r 1], t0, n, 0)) rfl (fun _ => rfl) rfl ?_
      refine gx_ld (i := 0) (d := 2) (v := gx_r 1) rfl (fun _ => rfl) h0 rfl rfl ?_
      refine gxo_get (a := 1) rfl g0 rfl rfl km rfl ?_
      refine ex_go (S := (71, cl, [.inr (.inl 0), .inl m, .inl 0, gx_r 1], t0, n, 0)) rfl (fun _ => rfl) rfl ?_
      obtain ⟨_, r113, t113, rfl, g113, e113, kq113, ka113, kb113, kc113, wv113, kw113, hw113⟩ := pk_addToken (d + 2) n (q := nn) (ty := 0) (p := m) (v := 0) g0 (by first | decide | omega) (by first | decide | omega) (by first | decide | omega) k7
      refine gx_callo (a := 1) rfl rfl g0 rfl rfl rfl r113 rfl ?_
      have k14 : ai_hv t113 1 0 = some (.inl m) := (e113 1 0 (by first | decide | omega)).trans km
      have k15 : ai_hv t113 1 1 = some (.inl 0) := (e113 1 1 (by first | decide | omega)).trans k1
      have k16 : ai_hv t113 1 8 = some (.inl 0) := (e113 1 8 (by first | decide | omega)).trans k8
      show en_ex _ _ _ _ (74, cl, [], t113, n, 0) _
      refine gx_ld (i := 0) (d := 2) (v := gx_r 1) rfl (fun _ => rfl) h0 rfl rfl ?_
      refine ex_go (S := (76, cl, [.inl 0, gx_r 1], t113, n, 0)) rfl (fun _ => rfl) rfl ?_
      refine gxo_put (a := 1) rfl g113 rfl rfl rfl (ai_in_h (by first | decide | omega) (by first | decide | omega) (by first | decide | omega)) rfl (fun t117 g117 k117 e117 => ?_)
      have k18 : ai_hv t117 1 1 = some (.inl 0) := (e117 1 1 (by first | decide | omega)).trans k15
      have k19 : ai_hv t117 1 8 = some (.inl 0) := (e117 1 8 (by first | decide | omega)).trans k16
      have k20 : ai_hv t117 1 7 = some (.inl (nn + 1)) := (e117 1 7 (by first | decide | omega)).trans kq113
      have k21 : ai_hv t117 3 nn = some (.inl 0) := (e117 3 nn (by first | decide | omega)).trans ka113
      have k22 : ai_hv t117 4 nn = some (.inl m) := (e117 4 nn (by first | decide | omega)).trans kb113
      have k23 : ai_hv t117 6 nn = some (wv113) := (e117 6 nn (by first | decide | omega)).trans kw113
      refine ex_ret (r := (none, t117, n, 0)) rfl (fun _ => rfl) ?_
      have hend : sp_st S m nn = m := by
        rw [← hx, show k = m by omega]
        exact sp_rn_end S sp_bl (Nat.le_refl _)
      have hwn : wv113 = .inr (.inr (.inl none)) := (hw113.resolve_left (fun z => absurd z.1 (by decide))).2
      subst hwn
      exact ⟨_, rfl, t117, rfl, g117, k117, k18, k19, (fun c i h => (e117 c i (by first | decide | omega)).trans ((e113 c i (by first | decide | omega)).trans (e0 c i h))), nn, by omega, tC_keep hT (fun c i h h9 => (e117 c i (by first | decide | omega)).trans (e113 c i (by first | decide | omega))), hend, k21, k22, k23, k20⟩
  | succ j ih =>
    intro k ii nn cl t0 hj hk hn hii g0 km k7 k1 k8 e0 hx hT h0 h1 h2
    have hS : ∀ i, i < m → ai_hv t0 2 i = some (.inl (S i)) ∧ S i ≤ 127 := fun i hi => ⟨(e0 2 i (by first | decide | omega)).trans (hSb i hi).1, (hSb i hi).2⟩
    refine gx_ld (i := 2) (d := 0) (v := .inl ii) rfl (fun _ => rfl) h2 rfl rfl ?_
    refine ex_go (S := (23, cl, [.inl 1000, .inl ii], t0, n, 0)) rfl (fun _ => rfl) rfl ?_
    by_cases hc1 : 1000 ≤ ii
    · refine gx_2t (c := .ge) rfl (by first | decide | omega) (by first | decide | omega) hc1 rfl ?_
      refine gx_ld (i := 0) (d := 2) (v := gx_r 1) rfl (fun _ => rfl) h0 rfl rfl ?_
      refine ex_go (S := (66, cl, [.inl 0, gx_r 1], t0, n, 0)) rfl (fun _ => rfl) rfl ?_
      refine gx_ld (i := 0) (d := 2) (v := gx_r 1) rfl (fun _ => rfl) h0 rfl rfl ?_
      refine gxo_get (a := 1) rfl g0 rfl rfl km rfl ?_
      refine ex_go (S := (71, cl, [.inr (.inl 0), .inl m, .inl 0, gx_r 1], t0, n, 0)) rfl (fun _ => rfl) rfl ?_
      obtain ⟨_, r102, t102, rfl, g102, e102, kq102, ka102, kb102, kc102, wv102, kw102, hw102⟩ := pk_addToken (d + 2) n (q := nn) (ty := 0) (p := m) (v := 0) g0 (by first | decide | omega) (by first | decide | omega) (by first | decide | omega) k7
      refine gx_callo (a := 1) rfl rfl g0 rfl rfl rfl r102 rfl ?_
      have k3 : ai_hv t102 1 0 = some (.inl m) := (e102 1 0 (by first | decide | omega)).trans km
      have k4 : ai_hv t102 1 1 = some (.inl 0) := (e102 1 1 (by first | decide | omega)).trans k1
      have k5 : ai_hv t102 1 8 = some (.inl 0) := (e102 1 8 (by first | decide | omega)).trans k8
      show en_ex _ _ _ _ (74, cl, [], t102, n, 0) _
      refine gx_ld (i := 0) (d := 2) (v := gx_r 1) rfl (fun _ => rfl) h0 rfl rfl ?_
      refine ex_go (S := (76, cl, [.inl 0, gx_r 1], t102, n, 0)) rfl (fun _ => rfl) rfl ?_
      refine gxo_put (a := 1) rfl g102 rfl rfl rfl (ai_in_h (by first | decide | omega) (by first | decide | omega) (by first | decide | omega)) rfl (fun t106 g106 k106 e106 => ?_)
      have k7 : ai_hv t106 1 1 = some (.inl 0) := (e106 1 1 (by first | decide | omega)).trans k4
      have k8 : ai_hv t106 1 8 = some (.inl 0) := (e106 1 8 (by first | decide | omega)).trans k5
      have k9 : ai_hv t106 1 7 = some (.inl (nn + 1)) := (e106 1 7 (by first | decide | omega)).trans kq102
      have k10 : ai_hv t106 3 nn = some (.inl 0) := (e106 3 nn (by first | decide | omega)).trans ka102
      have k11 : ai_hv t106 4 nn = some (.inl m) := (e106 4 nn (by first | decide | omega)).trans kb102
      have k12 : ai_hv t106 6 nn = some (wv102) := (e106 6 nn (by first | decide | omega)).trans kw102
      refine ex_ret (r := (none, t106, n, 0)) rfl (fun _ => rfl) ?_
      have hend : sp_st S m nn = m := by
        rw [← hx, show k = m by omega]
        exact sp_rn_end S sp_bl (Nat.le_refl _)
      have hwn : wv102 = .inr (.inr (.inl none)) := (hw102.resolve_left (fun z => absurd z.1 (by decide))).2
      subst hwn
      exact ⟨_, rfl, t106, rfl, g106, k106, k7, k8, (fun c i h => (e106 c i (by first | decide | omega)).trans ((e102 c i (by first | decide | omega)).trans (e0 c i h))), nn, by omega, tC_keep hT (fun c i h h9 => (e106 c i (by first | decide | omega)).trans (e102 c i (by first | decide | omega))), hend, k10, k11, k12, k9⟩
    · refine gx_2f (c := .ge) rfl (by first | decide | omega) (by first | decide | omega) hc1 rfl ?_
      refine gx_ld (i := 1) (d := 0) (v := .inl k) rfl (fun _ => rfl) h1 rfl rfl ?_
      refine gx_ld (i := 0) (d := 2) (v := gx_r 1) rfl (fun _ => rfl) h0 rfl rfl ?_
      refine gxo_get (a := 1) rfl g0 rfl rfl km rfl ?_
      by_cases hc13 : m ≤ k
      · refine gx_2t (c := .ge) rfl (by first | decide | omega) (by first | decide | omega) hc13 rfl ?_
        refine gx_ld (i := 0) (d := 2) (v := gx_r 1) rfl (fun _ => rfl) h0 rfl rfl ?_
        refine ex_go (S := (66, cl, [.inl 0, gx_r 1], t0, n, 0)) rfl (fun _ => rfl) rfl ?_
        refine gx_ld (i := 0) (d := 2) (v := gx_r 1) rfl (fun _ => rfl) h0 rfl rfl ?_
        refine gxo_get (a := 1) rfl g0 rfl rfl km rfl ?_
        refine ex_go (S := (71, cl, [.inr (.inl 0), .inl m, .inl 0, gx_r 1], t0, n, 0)) rfl (fun _ => rfl) rfl ?_
        obtain ⟨_, r114, t114, rfl, g114, e114, kq114, ka114, kb114, kc114, wv114, kw114, hw114⟩ := pk_addToken (d + 2) n (q := nn) (ty := 0) (p := m) (v := 0) g0 (by first | decide | omega) (by first | decide | omega) (by first | decide | omega) k7
        refine gx_callo (a := 1) rfl rfl g0 rfl rfl rfl r114 rfl ?_
        have k15 : ai_hv t114 1 0 = some (.inl m) := (e114 1 0 (by first | decide | omega)).trans km
        have k16 : ai_hv t114 1 1 = some (.inl 0) := (e114 1 1 (by first | decide | omega)).trans k1
        have k17 : ai_hv t114 1 8 = some (.inl 0) := (e114 1 8 (by first | decide | omega)).trans k8
        show en_ex _ _ _ _ (74, cl, [], t114, n, 0) _
        refine gx_ld (i := 0) (d := 2) (v := gx_r 1) rfl (fun _ => rfl) h0 rfl rfl ?_
        refine ex_go (S := (76, cl, [.inl 0, gx_r 1], t114, n, 0)) rfl (fun _ => rfl) rfl ?_
        refine gxo_put (a := 1) rfl g114 rfl rfl rfl (ai_in_h (by first | decide | omega) (by first | decide | omega) (by first | decide | omega)) rfl (fun t118 g118 k118 e118 => ?_)
        have k19 : ai_hv t118 1 1 = some (.inl 0) := (e118 1 1 (by first | decide | omega)).trans k16
        have k20 : ai_hv t118 1 8 = some (.inl 0) := (e118 1 8 (by first | decide | omega)).trans k17
        have k21 : ai_hv t118 1 7 = some (.inl (nn + 1)) := (e118 1 7 (by first | decide | omega)).trans kq114
        have k22 : ai_hv t118 3 nn = some (.inl 0) := (e118 3 nn (by first | decide | omega)).trans ka114
        have k23 : ai_hv t118 4 nn = some (.inl m) := (e118 4 nn (by first | decide | omega)).trans kb114
        have k24 : ai_hv t118 6 nn = some (wv114) := (e118 6 nn (by first | decide | omega)).trans kw114
        refine ex_ret (r := (none, t118, n, 0)) rfl (fun _ => rfl) ?_
        have hend : sp_st S m nn = m := by
          rw [← hx, show k = m by omega]
          exact sp_rn_end S sp_bl (Nat.le_refl _)
        have hwn : wv114 = .inr (.inr (.inl none)) := (hw114.resolve_left (fun z => absurd z.1 (by decide))).2
        subst hwn
        exact ⟨_, rfl, t118, rfl, g118, k118, k19, k20, (fun c i h => (e118 c i (by first | decide | omega)).trans ((e114 c i (by first | decide | omega)).trans (e0 c i h))), nn, by omega, tC_keep hT (fun c i h h9 => (e118 c i (by first | decide | omega)).trans (e114 c i (by first | decide | omega))), hend, k22, k23, k24, k21⟩
      · refine gx_2f (c := .ge) rfl (by first | decide | omega) (by first | decide | omega) hc13 rfl ?_
        refine gx_ld (i := 0) (d := 2) (v := gx_r 1) rfl (fun _ => rfl) h0 rfl rfl ?_
        refine gxo_ref (a := 1) (c := 2) rfl g0 rfl rfl rfl rfl rfl ?_
        refine gx_ld (i := 1) (d := 0) (v := .inl k) rfl (fun _ => rfl) h1 rfl rfl ?_
        have k25 := (hS (k) (by first | decide | omega)).1
        have k25b := (hS (k) (by first | decide | omega)).2
        refine gx_ag (v := .inl (S k)) (cb := fun c => Nat.beq c 2 || Nat.beq c 1) rfl (fun _ => rfl) g0 rfl rfl k25 (by first | decide | omega) rfl ?_
        obtain ⟨_, r26, b27, rfl, q28⟩ := pc_isBlank (d + 3) n (t0 := t0) (x := S k) (by first | decide | omega)
        refine ex_stat rfl rfl rfl rfl rfl r26 (Nat.le_refl _) rfl ?_
        show en_ex _ _ _ _ (43, cl, [.inl b27], t0, n, 0) _
        by_cases hc29 : b27 = 0
        · refine gx_1t (c := .eq) rfl (by first | decide | omega) hc29 rfl ?_
          refine gx_ld (i := 0) (d := 2) (v := gx_r 1) rfl (fun _ => rfl) h0 rfl rfl ?_
          refine gx_ld (i := 1) (d := 0) (v := .inl k) rfl (fun _ => rfl) h1 rfl rfl ?_
          have hst : sp_st S m nn = k := hx.symm.trans (sp_rn_f (sp_no (fun z => by have := sp_bl_iff.mp z; omega)))
          have hte := sp_te_gt (S := S) (len := m) (p := k) (by first | decide | omega)
          obtain ⟨_, r130, t130, rfl, g130, e130, kq130, tc130⟩ := pc_cutToken d n (q := nn) g0 km k7 hm (by first | decide | omega) hS (show k < m by omega)
          refine gx_callo (a := 1) rfl rfl g0 rfl rfl rfl r130 rfl ?_
          have k31 : ai_hv t130 1 0 = some (.inl m) := (e130 1 0 (by first | decide | omega)).trans km
          have k32 : ai_hv t130 1 1 = some (.inl 0) := (e130 1 1 (by first | decide | omega)).trans k1
          have k33 : ai_hv t130 1 8 = some (.inl 0) := (e130 1 8 (by first | decide | omega)).trans k8
          show en_ex _ _ _ _ (57, cl, [.inl (sp_te S m k)], t130, n, 0) _
          refine gx_sto (i := 1) (d := 0) rfl (fun _ => rfl) rfl rfl (fun l34 hl34 ml34 => ?_)
          have l34_0 : en_ld l34 0 = some (gx_r 1) := ml34 0 _ h0 rfl
          have l34_2 : en_ld l34 2 = some (.inl ii) := ml34 2 _ h2 rfl
          refine gx_incS (i := 2) (a := ii) (x := 1) rfl (fun _ => rfl) l34_2 (by first | decide | omega) rfl (fun l35 hl35 ml35 => ?_)
          have l35_0 : en_ld l35 0 = some (gx_r 1) := ml35 0 _ l34_0 rfl
          have l35_1 : en_ld l35 1 = some (.inl (sp_te S m k)) := ml35 1 _ hl34 rfl
          refine ex_go (S := (19, l35, [], t130, n, 0)) rfl (fun _ => rfl) rfl ?_
          have hnx : sp_nx S m (sp_te S m k) = sp_st S m (nn + 1) := by
            show _ = sp_nx S m (sp_te S m (sp_st S m nn))
            rw [hst]
          exact ih _ _ _ _ t130 (by first | decide | omega) (by first | decide | omega) (by first | decide | omega) (by first | decide | omega) g130 k31 kq130 k32 k33 (fun c i h => (e130 c i (by first | decide | omega)).trans (e0 c i h)) hnx (tC_next hT hst (by first | decide | omega) (fun c i h h9 => e130 c i (by first | decide | omega)) tc130) l35_0 l35_1 hl35
        · refine gx_1f (c := .eq) rfl (by first | decide | omega) hc29 rfl ?_
          refine gx_ld (i := 1) (d := 0) (v := .inl k) rfl (fun _ => rfl) h1 rfl rfl ?_
          refine ex_go (S := (48, cl, [.inl 1, .inl k], t0, n, 0)) rfl (fun _ => rfl) rfl ?_
          refine ex_iadd rfl (by first | decide | omega) rfl ?_
          refine ex_go (S := (57, cl, [.inl (k + 1)], t0, n, 0)) rfl (fun _ => rfl) rfl ?_
          refine gx_sto (i := 1) (d := 0) rfl (fun _ => rfl) rfl rfl (fun l36 hl36 ml36 => ?_)
          have l36_0 : en_ld l36 0 = some (gx_r 1) := ml36 0 _ h0 rfl
          have l36_2 : en_ld l36 2 = some (.inl ii) := ml36 2 _ h2 rfl
          refine gx_incS (i := 2) (a := ii) (x := 1) rfl (fun _ => rfl) l36_2 (by first | decide | omega) rfl (fun l37 hl37 ml37 => ?_)
          have l37_0 : en_ld l37 0 = some (gx_r 1) := ml37 0 _ l36_0 rfl
          have l37_1 : en_ld l37 1 = some (.inl (k + 1)) := ml37 1 _ hl36 rfl
          refine ex_go (S := (19, l37, [], t0, n, 0)) rfl (fun _ => rfl) rfl ?_
          have hb : sp_bl (S k) = true := sp_bl_iff.mpr (by first | decide | omega)
          exact ih _ _ _ _ t0 (by first | decide | omega) (by first | decide | omega) (by first | decide | omega) (by first | decide | omega) g0 km k7 k1 k8 (fun c i h => e0 c i h) ((sp_rn_t (by first | decide | omega) hb).symm.trans hx) hT l37_0 l37_1 hl37
theorem pc_cut (d n : Nat) {tb : en_H} {S : Nat → Nat} {m : Nat} (g0 : ai_HG ah_G tb) (hm : m ≤ 1000) (km : ai_hv tb 1 0 = some (.inl m)) (hS : ∀ i, i < m → ai_hv tb 2 i = some (.inl (S i)) ∧ S i ≤ 127) : ∃ r, en_u (d + 5) 173 [gx_r 1] tb n = some r ∧ ∃ t', r = (none, t', n, 0) ∧ ai_HG ah_G t' ∧ ai_hv t' 1 0 = some (.inl 0) ∧ ai_hv t' 1 1 = some (.inl 0) ∧ ai_hv t' 1 8 = some (.inl 0) ∧ (∀ c i, ¬ ((c = 1 ∧ (i = 0 ∨ i = 1 ∨ i = 7 ∨ i = 8)) ∨ c = 3 ∨ c = 4 ∨ c = 5 ∨ c = 6) → ai_hv t' c i = ai_hv tb c i) ∧ ∃ N, N ≤ m ∧ tC t' S m N ∧ sp_st S m N = m ∧ ai_hv t' 3 N = some (.inl 0) ∧ ai_hv t' 4 N = some (.inl m) ∧ ai_hv t' 6 N = some (.inr (.inr (.inl none))) ∧ ai_hv t' 1 7 = some (.inl (N + 1)) := by
  refine en_u_ex (d := d + 4) rfl ?_
  show en_ex _ _ _ _ (0, [(0, gx_r 1)], [], tb, n, 0) _
  refine ex_go (S := (1, [(0, gx_r 1)], [gx_r 1], tb, n, 0)) rfl (fun _ => rfl) rfl ?_
  refine ex_go (S := (2, [(0, gx_r 1)], [.inl 0, gx_r 1], tb, n, 0)) rfl (fun _ => rfl) rfl ?_
  refine gxo_put (a := 1) rfl g0 rfl rfl rfl (ai_in_h (by first | decide | omega) (by first | decide | omega) (by first | decide | omega)) rfl (fun t101 g101 k101 e101 => ?_)
  have k2 : ai_hv t101 1 0 = some (.inl m) := (e101 1 0 (by first | decide | omega)).trans km
  refine ex_go (S := (6, [(0, gx_r 1)], [gx_r 1], t101, n, 0)) rfl (fun _ => rfl) rfl ?_
  refine ex_go (S := (7, [(0, gx_r 1)], [.inl 0, gx_r 1], t101, n, 0)) rfl (fun _ => rfl) rfl ?_
  refine gxo_put (a := 1) rfl g101 rfl rfl rfl (ai_in_h (by first | decide | omega) (by first | decide | omega) (by first | decide | omega)) rfl (fun t103 g103 k103 e103 => ?_)
  have k4 : ai_hv t103 1 0 = some (.inl m) := (e103 1 0 (by first | decide | omega)).trans k2
  have k5 : ai_hv t103 1 7 = some (.inl 0) := (e103 1 7 (by first | decide | omega)).trans k101
  refine ex_go (S := (11, [(0, gx_r 1)], [gx_r 1], t103, n, 0)) rfl (fun _ => rfl) rfl ?_
  refine ex_go (S := (12, [(0, gx_r 1)], [.inl 0, gx_r 1], t103, n, 0)) rfl (fun _ => rfl) rfl ?_
  refine gxo_put (a := 1) rfl g103 rfl rfl rfl (ai_in_h (by first | decide | omega) (by first | decide | omega) (by first | decide | omega)) rfl (fun t106 g106 k106 e106 => ?_)
  have k7 : ai_hv t106 1 0 = some (.inl m) := (e106 1 0 (by first | decide | omega)).trans k4
  have k8 : ai_hv t106 1 7 = some (.inl 0) := (e106 1 7 (by first | decide | omega)).trans k5
  have k9 : ai_hv t106 1 8 = some (.inl 0) := (e106 1 8 (by first | decide | omega)).trans k103
  refine ex_go (S := (16, [(0, gx_r 1)], [.inl 0], t106, n, 0)) rfl (fun _ => rfl) rfl ?_
  refine ex_go (S := (17, [(1, .inl 0), (0, gx_r 1)], [], t106, n, 0)) rfl (fun _ => rfl) rfl ?_
  refine ex_go (S := (18, [(1, .inl 0), (0, gx_r 1)], [.inl 0], t106, n, 0)) rfl (fun _ => rfl) rfl ?_
  refine ex_go (S := (19, [(2, .inl 0), (1, .inl 0), (0, gx_r 1)], [], t106, n, 0)) rfl (fun _ => rfl) rfl ?_
  exact cc_out d n (tb := tb) hm hS 1000 0 0 0 _ t106 (by first | decide | omega) (by first | decide | omega) (by first | decide | omega) (by first | decide | omega) g106 k7 k8 k106 k9 (fun c i h => (e106 c i (by first | decide | omega)).trans ((e103 c i (by first | decide | omega)).trans (e101 c i (by first | decide | omega)))) rfl (fun j hj => by omega) rfl rfl rfl
end SPF
