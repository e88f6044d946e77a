section SPS
variable {oc : Option (List en_V)} {f : en_F} {code : Nat → Option en_I} {stop : Nat → Bool} {P : en_O → Prop}
variable {pc nx : Nat} {ls : en_L} {st : List en_V} {t : en_H} {n sl : Nat}
noncomputable def wd_g (w : Nat) : Nat := (en_wk w).2.1
noncomputable def wd_r (w : Nat) : Nat := (en_wk w).2.2
theorem wd_all {p : Nat → Bool} (h : (List.range 42).all p = true) {w : Nat} (hw : w < 42) : p w = true := List.all_eq_true.mp h w (List.mem_range.mpr hw)
theorem wd_gle {w : Nat} (hw : w < 42) : wd_g w ≤ 3 ∧ (wd_g w = 3 ↔ 38 ≤ w) ∧ (wd_g w = 1 ↔ 26 ≤ w ∧ w ≤ 30) ∧ (wd_g w = 2 ↔ 31 ≤ w ∧ w ≤ 34) := by
  have h := wd_all (p := fun w => decide (wd_g w ≤ 3 ∧ (wd_g w = 3 ↔ 38 ≤ w) ∧ (wd_g w = 1 ↔ 26 ≤ w ∧ w ≤ 30) ∧ (wd_g w = 2 ↔ 31 ≤ w ∧ w ≤ 34))) (by decide +kernel) hw
  exact of_decide_eq_true h
theorem wd_rle {w : Nat} (hw : w < 42) : (26 ≤ w → w ≤ 30 → wd_r w = w - 26) ∧ (31 ≤ w → w ≤ 34 → wd_r w = w - 31) ∧ wd_r w < 4294967296 := by
  have h := wd_all (p := fun w => decide ((26 ≤ w → w ≤ 30 → wd_r w = w - 26) ∧ (31 ≤ w → w ≤ 34 → wd_r w = w - 31) ∧ wd_r w < 4294967296)) (by decide +kernel) hw
  exact of_decide_eq_true h
theorem gx_wgrp {x2 i j : Nat} (hc : code pc = some (.getfield j, nx, 1, x2)) (hx : Nat.beq (x2 % 16) 11 = true) (hi : i < 42) (hp : stop nx = false) (h : en_ex oc f code stop (nx, ls, .inl (wd_g i) :: st, t, n, sl) P) : en_ex oc f code stop (pc, ls, gx_w i :: st, t, n, sl) P := by
  refine ex_go (S := (nx, ls, .inl (wd_g i) :: st, t, n, sl)) hc (fun k => ?_) hp h
  show (bif Nat.beq (x2 % 16) 11 then (match en_wf i 1 with | some v => k nx ls (v :: st) t n sl | none => none) else none) = _
  have hw : en_wf i 1 = some (.inl (wd_g i)) := by
    unfold en_wf
    rw [en_nth_eq, show en_wks[i]? = some (en_wk i) by unfold en_wk; rw [List.getD_eq_getElem?_getD, List.getElem?_eq_getElem (show i < en_wks.length from hi)]; rfl]
    rfl
  rw [hx, hw]
  rfl
theorem gx_wrnk {x2 i j : Nat} (hc : code pc = some (.getfield j, nx, 2, x2)) (hx : Nat.beq (x2 % 16) 11 = true) (hi : i < 42) (hp : stop nx = false) (h : en_ex oc f code stop (nx, ls, .inl (wd_r i) :: st, t, n, sl) P) : en_ex oc f code stop (pc, ls, gx_w i :: st, t, n, sl) P := by
  refine ex_go (S := (nx, ls, .inl (wd_r i) :: st, t, n, sl)) hc (fun k => ?_) hp h
  show (bif Nat.beq (x2 % 16) 11 then (match en_wf i 2 with | some v => k nx ls (v :: st) t n sl | none => none) else none) = _
  have hw : en_wf i 2 = some (.inl (wd_r i)) := by
    unfold en_wf
    rw [en_nth_eq, show en_wks[i]? = some (en_wk i) by unfold en_wk; rw [List.getD_eq_getElem?_getD, List.getElem?_eq_getElem (show i < en_wks.length from hi)]; rfl]
    rfl
  rw [hx, hw]
  rfl
theorem en_ac_w {a b : Nat} (ha : a < 42) (hb : b < 42) : en_ac (gx_w a) (gx_w b) = some (Nat.beq (a + 2) (b + 2)) := by
  show (bif (Nat.ble 2 (a + 2) && Nat.ble (a + 2) 43) && (Nat.ble 2 (b + 2) && Nat.ble (b + 2) 43) then some (Nat.beq (a + 2) (b + 2)) else none) = _
  rw [Nat.ble_eq_true_of_le (show 2 ≤ a + 2 by omega), Nat.ble_eq_true_of_le (show a + 2 ≤ 43 by omega), Nat.ble_eq_true_of_le (show 2 ≤ b + 2 by omega), Nat.ble_eq_true_of_le (show b + 2 ≤ 43 by omega)]
  rfl
theorem gx_acet {j : Int} {x1 x2 a b : Nat} (hc : code pc = some (.if_acmp .eq j, nx, x1, x2)) (ha : a < 42) (hb : b < 42) (h1 : a = b) (hp : stop x1 = false) (h : en_ex oc f code stop (x1, ls, st, t, n, sl) P) : en_ex oc f code stop (pc, ls, gx_w b :: gx_w a :: st, t, n, sl) P := by
  refine ex_go (S := (x1, ls, st, t, n, sl)) hc (fun k => ?_) hp h
  show en_jump (en_ac (gx_w a) (gx_w b)) x1 nx ls st t n sl k = _
  rw [en_ac_w ha hb, h1, show Nat.beq (b + 2) (b + 2) = true from Nat.beq_refl _]
  rfl
theorem gx_acef {j : Int} {x1 x2 a b : Nat} (hc : code pc = some (.if_acmp .eq j, nx, x1, x2)) (ha : a < 42) (hb : b < 42) (h1 : ¬ a = b) (hp : stop nx = false) (h : en_ex oc f code stop (nx, ls, st, t, n, sl) P) : en_ex oc f code stop (pc, ls, gx_w b :: gx_w a :: st, t, n, sl) P := by
  refine ex_go (S := (nx, ls, st, t, n, sl)) hc (fun k => ?_) hp h
  show en_jump (en_ac (gx_w a) (gx_w b)) x1 nx ls st t n sl k = _
  rw [en_ac_w ha hb, show Nat.beq (a + 2) (b + 2) = false from Bool.eq_false_iff.mpr (fun z => by have := Nat.eq_of_beq_eq_true z; omega)]
  rfl
theorem gx_acnt {j : Int} {x1 x2 a b : Nat} (hc : code pc = some (.if_acmp .ne j, nx, x1, x2)) (ha : a < 42) (hb : b < 42) (h1 : a = b) (hp : stop nx = false) (h : en_ex oc f code stop (nx, ls, st, t, n, sl) P) : en_ex oc f code stop (pc, ls, gx_w b :: gx_w a :: st, t, n, sl) P := by
  refine ex_go (S := (nx, ls, st, t, n, sl)) hc (fun k => ?_) hp h
  show en_jump (en_not (en_ac (gx_w a) (gx_w b))) x1 nx ls st t n sl k = _
  rw [en_ac_w ha hb, h1, show Nat.beq (b + 2) (b + 2) = true from Nat.beq_refl _]
  rfl
theorem gx_acnf {j : Int} {x1 x2 a b : Nat} (hc : code pc = some (.if_acmp .ne j, nx, x1, x2)) (ha : a < 42) (hb : b < 42) (h1 : ¬ a = b) (hp : stop x1 = false) (h : en_ex oc f code stop (x1, ls, st, t, n, sl) P) : en_ex oc f code stop (pc, ls, gx_w b :: gx_w a :: st, t, n, sl) P := by
  refine ex_go (S := (x1, ls, st, t, n, sl)) hc (fun k => ?_) hp h
  show en_jump (en_not (en_ac (gx_w a) (gx_w b))) x1 nx ls st t n sl k = _
  rw [en_ac_w ha hb, show Nat.beq (a + 2) (b + 2) = false from Bool.eq_false_iff.mpr (fun z => by have := Nat.eq_of_beq_eq_true z; omega)]
  rfl
theorem gx_inm1 {c : ClassFile.Cond} {x : Nat} {r : Bool} (h1 : x < 2147483648) (hr : ai_rel c (2147483648, 4294967295) (2147483647, 2147483647) = some r) : en_rel c (.inl x) (.inl 4294967295) = some r := by
  obtain ⟨b, hb, h3⟩ := ai_rel_ok (c := c) (p := (2147483648, 4294967295)) (q := (2147483647, 2147483647)) (x := x) (y := 4294967295) ⟨by omega, by unfold ai_off; show 2147483648 ≤ _; omega, by unfold ai_off; show _ ≤ 4294967295; omega⟩ ⟨by decide, by decide, by decide⟩
  rw [hb, h3 r hr]
theorem gx_2mt {c : ClassFile.Cond} {j : Int} {x1 x2 x : Nat} (hc : code pc = some (.if_icmp c j, nx, x1, x2)) (hx : x < 2147483648) (hr : ai_rel c (2147483648, 4294967295) (2147483647, 2147483647) = some true) (hp : stop x1 = false) (h : en_ex oc f code stop (x1, ls, st, t, n, sl) P) : en_ex oc f code stop (pc, ls, .inl 4294967295 :: .inl x :: st, t, n, sl) P :=
  ex_cmp2 (r := true) hc (gx_inm1 hx hr) hp h
theorem gx_2mf {c : ClassFile.Cond} {j : Int} {x1 x2 x : Nat} (hc : code pc = some (.if_icmp c j, nx, x1, x2)) (hx : x < 2147483648) (hr : ai_rel c (2147483648, 4294967295) (2147483647, 2147483647) = some false) (hp : stop nx = false) (h : en_ex oc f code stop (nx, ls, st, t, n, sl) P) : en_ex oc f code stop (pc, ls, .inl 4294967295 :: .inl x :: st, t, n, sl) P :=
  ex_cmp2 (r := false) hc (gx_inm1 hx hr) hp h
theorem gx_long_5 {i : Nat} (hG : ai_HG ah_G t) (hi : i < 1001) : ∃ m, ai_hv t 5 i = some (.inr (.inl m)) := gx_long hG rfl hi (gx_run1 hi)
/-- the class's tape: where it stands, the fault -/
noncomputable def cS (t : en_H) (a f : Nat) : Prop := ai_HG ah_G t ∧ ai_hv t 1 8 = some (.inl a) ∧ ai_hv t 1 1 = some (.inl f) ∧ a ≤ 1000 ∧ f ≤ 16005
/-- the class's tokens, all of them -/
noncomputable def cT (t : en_H) (S : Nat → Nat) (m N : Nat) : Prop := tC t S m N ∧ sp_st S m N = m ∧ ai_hv t 3 N = some (.inl 0) ∧ ai_hv t 4 N = some (.inl m) ∧ ai_hv t 6 N = some (.inr (.inr (.inl none))) ∧ ai_hv t 1 7 = some (.inl (N + 1)) ∧ (N ≤ m ∧ m ≤ 1000) ∧ ∀ i, i < m → S i ≤ 127
theorem cT_keep {t t' : en_H} {S : Nat → Nat} {m N : Nat} (h : cT t S m N) (e : ∀ c i, c = 3 ∨ c = 4 ∨ c = 5 ∨ c = 6 ∨ (c = 1 ∧ i = 7) → ai_hv t' c i = ai_hv t c i) : cT t' S m N :=
  ⟨fun j hj => ⟨(h.1 j hj).1, tC1_keep (h.1 j hj).2 (fun c hc => e c j (by first | decide | omega))⟩, h.2.1, (e _ _ (by first | decide | omega)).trans h.2.2.1, (e _ _ (by first | decide | omega)).trans h.2.2.2.1, (e _ _ (by first | decide | omega)).trans h.2.2.2.2.1, (e _ _ (by first | decide | omega)).trans h.2.2.2.2.2.1, h.2.2.2.2.2.2⟩
noncomputable def cF (t t' : en_H) : Prop := ∀ c i, ¬ (c = 1 ∧ (i = 1 ∨ i = 8)) → ai_hv t' c i = ai_hv t c i
theorem cT_ty {t : en_H} {S : Nat → Nat} {m N a : Nat} (h : cT t S m N) (ha : a ≤ N) : ∃ y, ai_hv t 3 a = some (.inl y) ∧ ((sp_kt S m N a = 0 ∧ y = 0 ∧ a = N) ∨ (sp_kt S m N a = 1 ∧ y = 2 ∧ a < N) ∨ (sp_kt S m N a = 2 ∧ y = 3 ∧ a < N) ∨ (sp_kt S m N a = 3 ∧ y = 4 ∧ a < N) ∨ (sp_kt S m N a = 4 ∧ y = 1 ∧ a < N)) := by
  unfold sp_kt
  by_cases c : a < N
  · rw [if_pos c]
    obtain ⟨wv, h1, -⟩ := (h.1 a c).2
    refine ⟨_, h1, ?_⟩
    have := sp_ty_le S m (sp_st S m a)
    rcases (show sp_ty S m (sp_st S m a) = 1 ∨ sp_ty S m (sp_st S m a) = 2 ∨ sp_ty S m (sp_st S m a) = 3 ∨ sp_ty S m (sp_st S m a) = 4 by omega) with e | e | e | e <;> rw [e]
    · exact Or.inr (Or.inl ⟨rfl, rfl, c⟩)
    · exact Or.inr (Or.inr (Or.inl ⟨rfl, rfl, c⟩))
    · exact Or.inr (Or.inr (Or.inr (Or.inl ⟨rfl, rfl, c⟩)))
    · exact Or.inr (Or.inr (Or.inr (Or.inr ⟨rfl, rfl, c⟩)))
  · rw [if_neg c, show a = N by omega]
    exact ⟨0, h.2.2.1, Or.inl ⟨rfl, rfl, rfl⟩⟩
theorem cT_st {t : en_H} {S : Nat → Nat} {m N a : Nat} (h : cT t S m N) (ha : a ≤ N) : ai_hv t 4 a = some (.inl (sp_st S m a)) ∧ sp_st S m a ≤ 1000 := by
  have := h.2.2.2.2.2.2.1
  by_cases c : a < N
  · have := (h.1 a c).1
    obtain ⟨wv, -, h2, -⟩ := (h.1 a c).2
    exact ⟨h2, by omega⟩
  · rw [show a = N by omega, h.2.1]; exact ⟨h.2.2.2.1, by omega⟩
theorem cT_lN {x : Nat} (h : x < 9223372036854775808) : (lN x).toInt = (x : Int) := sp_lN h
theorem wd_key_lt {w : Nat} (h : w < 42) : wd_key w < 9223372036854775808 := of_decide_eq_true (wd_all (p := fun w => decide (wd_key w < 9223372036854775808)) (by decide +kernel) h)
theorem cT_wd {t : en_H} {S : Nat → Nat} {m N a : Nat} (h : cT t S m N) (ha : a ≤ N) : ∃ wv, ai_hv t 6 a = some wv ∧ ((wv = .inr (.inr (.inl none)) ∧ ∀ w, w < 42 → ¬ sp_wd S m N a w) ∨ ∃ w, w < 42 ∧ wv = gx_w w ∧ sp_wd S m N a w) := by
  by_cases c : a < N
  · obtain ⟨wv, h1, h2, h3, h4, h5⟩ := (h.1 a c).2
    refine ⟨wv, h3, ?_⟩
    rcases h5 with ⟨e, h5⟩ | ⟨e, h5⟩
    · obtain ⟨e1, e2⟩ := sp_ty_1 e
      have hl : ∀ j, j < sp_rn S sp_le m (sp_st S m a) - sp_st S m a → sp_le (S (sp_st S m a + j)) = true := fun j hj => sp_rn_all (m := m) (k := sp_st S m a) (by first | decide | omega) (by first | decide | omega)
      have hb := sp_hv32 e2 hl
      rw [sp_vC_l e1] at h5
      rcases h5 with ⟨z1, z2⟩ | ⟨w, z1, z2, z3⟩
      · refine Or.inl ⟨z1, fun w hw z => z2 w hw ?_⟩
        rw [z.2.2]
      · refine Or.inr ⟨w, z1, z2, c, e, ?_⟩
        have := wd_key_lt z1
        rw [sp_lN this, sp_lN (by first | decide | omega)] at z3
        omega
    · exact Or.inl ⟨h5, fun w hw z => e z.2.1⟩
  · refine ⟨_, by rw [show a = N by omega]; exact h.2.2.2.2.1, Or.inl ⟨rfl, fun w hw z => c z.1⟩⟩
theorem cT_nv {t : en_H} {S : Nat → Nat} {m N a : Nat} (h : cT t S m N) (hk : sp_kt S m N a = 2) : ai_hv t 5 a = some (.inr (.inl (sp_nv S m a))) ∧ sp_nv S m a < 10000 := by
  have c := sp_kt_lt (S := S) (m := m) (N := N) (a := a) (by first | decide | omega)
  unfold sp_kt at hk
  rw [if_pos c] at hk
  obtain ⟨wv, h1, h2, h3, h4, h5⟩ := (h.1 a c).2
  obtain ⟨e0, e1, e2⟩ := sp_ty_2 hk
  have hl : ∀ j, j < sp_rn S sp_di m (sp_st S m a) - sp_st S m a → sp_di (S (sp_st S m a + j)) = true := fun j hj => sp_rn_all (m := m) (k := sp_st S m a) (by first | decide | omega) (by first | decide | omega)
  have h4 := h4 (by first | decide | omega)
  rw [sp_vC_d e0 e1] at h4
  exact ⟨h4, sp_hv10 e2 hl⟩
theorem cT_wv {t : en_H} {S : Nat → Nat} {m N a : Nat} (h : cT t S m N) (hk : sp_kt S m N a = 1) : ai_hv t 5 a = some (.inr (.inl (sp_wv S m a))) ∧ sp_wv S m a < 1099511627777 := by
  have c := sp_kt_lt (S := S) (m := m) (N := N) (a := a) (by first | decide | omega)
  unfold sp_kt at hk
  rw [if_pos c] at hk
  obtain ⟨wv, h1, h2, h3, h4, h5⟩ := (h.1 a c).2
  obtain ⟨e0, e2⟩ := sp_ty_1 hk
  have hl : ∀ j, j < sp_rn S sp_le m (sp_st S m a) - sp_st S m a → sp_le (S (sp_st S m a + j)) = true := fun j hj => sp_rn_all (m := m) (k := sp_st S m a) (by first | decide | omega) (by first | decide | omega)
  have h4 := h4 (by first | decide | omega)
  rw [sp_vC_l e0] at h4
  exact ⟨h4, sp_hv32 e2 hl⟩
theorem cT_sv {t : en_H} {S : Nat → Nat} {m N a : Nat} (h : cT t S m N) (hk : sp_kt S m N a = 3) : ai_hv t 5 a = some (.inr (.inl (S (sp_st S m a)))) ∧ S (sp_st S m a) ≤ 127 := by
  have c := sp_kt_lt (S := S) (m := m) (N := N) (a := a) (by first | decide | omega)
  unfold sp_kt at hk
  rw [if_pos c] at hk
  obtain ⟨wv, h1, h2, h3, h4, h5⟩ := (h.1 a c).2
  obtain ⟨e0, e1⟩ := sp_ty_3 hk
  have h4 := h4 (by first | decide | omega)
  rw [sp_vC_s e0 e1] at h4
  exact ⟨h4, h.2.2.2.2.2.2.2 _ (h.1 a c).1⟩
theorem sp_sg_kt {S : Nat → Nat} {m N a g : Nat} : sp_sg S m N a g ↔ sp_kt S m N a = 3 ∧ S (sp_st S m a) = g := by
  unfold sp_sg sp_kt
  constructor
  · rintro ⟨h1, h2, h3⟩
    rw [if_pos h1]; exact ⟨h2, h3⟩
  · rintro ⟨h1, h2⟩
    by_cases c : a < N
    · rw [if_pos c] at h1; exact ⟨c, h1, h2⟩
    · rw [if_neg c] at h1; cases h1
theorem sp_wd_kt {S : Nat → Nat} {m N a w : Nat} (h : sp_wd S m N a w) : sp_kt S m N a = 1 ∧ a < N := by
  unfold sp_kt
  rw [if_pos h.1]; exact ⟨h.2.1, h.1⟩
theorem pc_isWithin (d n : Nat) {t0 : en_H} {x lo hi : Nat} (hx : x < 2147483648) (h1 : lo < 2147483648) (h2 : hi < 4294967296) : ∃ r, en_u (d + 1) 104 [.inl x, .inl lo, .inl hi] t0 n = some r ∧ ∃ b, r = (some (.inl b), t0, n, 0) ∧ b ≤ 1 ∧ (hi < 2147483648 → (b = 1 ↔ lo ≤ x ∧ x ≤ hi)) := by
  refine en_u_ex rfl ?_
  show en_ex _ _ _ _ (0, [(0, .inl x), (1, .inl lo), (2, .inl hi)], [], t0, n, 0) _
  by_cases h3 : hi < 2147483648
  · refine ex_go (S := (1, [(0, .inl x), (1, .inl lo), (2, .inl hi)], [.inl x], t0, n, 0)) rfl (fun _ => rfl) rfl ?_
    refine ex_go (S := (2, [(0, .inl x), (1, .inl lo), (2, .inl hi)], [.inl lo, .inl x], t0, n, 0)) rfl (fun _ => rfl) rfl ?_
    by_cases hc1 : x < lo
    · refine gx_2t (c := .lt) rfl (by first | decide | omega) (by first | decide | omega) hc1 rfl ?_
      refine ex_go (S := (15, [(0, .inl x), (1, .inl lo), (2, .inl hi)], [.inl 0], t0, n, 0)) rfl (fun _ => rfl) rfl ?_
      refine ex_ret (r := (some (.inl 0), t0, n, 0)) rfl (fun _ => rfl) ?_
      exact ⟨_, rfl, 0, rfl, by omega⟩
    · refine gx_2f (c := .lt) rfl (by first | decide | omega) (by first | decide | omega) hc1 rfl ?_
      refine ex_go (S := (6, [(0, .inl x), (1, .inl lo), (2, .inl hi)], [.inl x], t0, n, 0)) rfl (fun _ => rfl) rfl ?_
      refine ex_go (S := (7, [(0, .inl x), (1, .inl lo), (2, .inl hi)], [.inl hi, .inl x], t0, n, 0)) rfl (fun _ => rfl) rfl ?_
      by_cases hc2 : hi < x
      · refine gx_2t (c := .gt) rfl (by first | decide | omega) (by first | decide | omega) hc2 rfl ?_
        refine ex_go (S := (15, [(0, .inl x), (1, .inl lo), (2, .inl hi)], [.inl 0], t0, n, 0)) rfl (fun _ => rfl) rfl ?_
        refine ex_ret (r := (some (.inl 0), t0, n, 0)) rfl (fun _ => rfl) ?_
        exact ⟨_, rfl, 0, rfl, by omega⟩
      · refine gx_2f (c := .gt) rfl (by first | decide | omega) (by first | decide | omega) hc2 rfl ?_
        refine ex_go (S := (11, [(0, .inl x), (1, .inl lo), (2, .inl hi)], [.inl 1], t0, n, 0)) rfl (fun _ => rfl) rfl ?_
        refine ex_go (S := (15, [(0, .inl x), (1, .inl lo), (2, .inl hi)], [.inl 1], t0, n, 0)) rfl (fun _ => rfl) rfl ?_
        refine ex_ret (r := (some (.inl 1), t0, n, 0)) rfl (fun _ => rfl) ?_
        exact ⟨_, rfl, 1, rfl, by omega⟩
  · refine ex_go (S := (1, [(0, .inl x), (1, .inl lo), (2, .inl hi)], [.inl x], t0, n, 0)) rfl (fun _ => rfl) rfl ?_
    refine ex_go (S := (2, [(0, .inl x), (1, .inl lo), (2, .inl hi)], [.inl lo, .inl x], t0, n, 0)) rfl (fun _ => rfl) rfl ?_
    by_cases hc1 : x < lo
    · refine gx_2t (c := .lt) rfl (by first | decide | omega) (by first | decide | omega) hc1 rfl ?_
      refine ex_go (S := (15, [(0, .inl x), (1, .inl lo), (2, .inl hi)], [.inl 0], t0, n, 0)) rfl (fun _ => rfl) rfl ?_
      refine ex_ret (r := (some (.inl 0), t0, n, 0)) rfl (fun _ => rfl) ?_
      exact ⟨_, rfl, 0, rfl, by omega⟩
    · refine gx_2f (c := .lt) rfl (by first | decide | omega) (by first | decide | omega) hc1 rfl ?_
      refine ex_go (S := (6, [(0, .inl x), (1, .inl lo), (2, .inl hi)], [.inl x], t0, n, 0)) rfl (fun _ => rfl) rfl ?_
      refine ex_go (S := (7, [(0, .inl x), (1, .inl lo), (2, .inl hi)], [.inl hi, .inl x], t0, n, 0)) rfl (fun _ => rfl) rfl ?_
      refine gx_2any (c := .gt) rfl (by first | decide | omega) (by first | decide | omega) rfl rfl ?_ ?_
      · show en_ex _ _ _ _ (14, [(0, .inl x), (1, .inl lo), (2, .inl hi)], [], t0, n, 0) _
        refine ex_go (S := (15, [(0, .inl x), (1, .inl lo), (2, .inl hi)], [.inl 0], t0, n, 0)) rfl (fun _ => rfl) rfl ?_
        refine ex_ret (r := (some (.inl 0), t0, n, 0)) rfl (fun _ => rfl) ?_
        exact ⟨_, rfl, 0, rfl, by omega⟩
      · show en_ex _ _ _ _ (10, [(0, .inl x), (1, .inl lo), (2, .inl hi)], [], t0, n, 0) _
        refine ex_go (S := (11, [(0, .inl x), (1, .inl lo), (2, .inl hi)], [.inl 1], t0, n, 0)) rfl (fun _ => rfl) rfl ?_
        refine ex_go (S := (15, [(0, .inl x), (1, .inl lo), (2, .inl hi)], [.inl 1], t0, n, 0)) rfl (fun _ => rfl) rfl ?_
        refine ex_ret (r := (some (.inl 1), t0, n, 0)) rfl (fun _ => rfl) ?_
        exact ⟨_, rfl, 1, rfl, by omega⟩
theorem pc_goesOn (d n : Nat) {t0 : en_H} {a f : Nat} {S : Nat → Nat} {m N : Nat} (s0 : cS t0 a f) (hT : cT t0 S m N) (ha : a ≤ N) : ∃ r, en_u (d + 1) 177 [gx_r 1] t0 n = some r ∧ ∃ b, r = (some (.inl b), t0, n, 0) ∧ (b ≤ 1 ∧ (b = 1 ↔ f = 0 ∧ a < N)) := by
  have b0 := s0.2.2.2
  have hN := hT.2.2.2.2.2.2.1
  refine en_u_ex rfl ?_
  show en_ex _ _ _ _ (0, [(0, gx_r 1)], [], t0, n, 0) _
  refine ex_go (S := (1, [(0, gx_r 1)], [gx_r 1], t0, n, 0)) rfl (fun _ => rfl) rfl ?_
  refine gxo_get (a := 1) rfl s0.1 rfl rfl s0.2.2.1 rfl ?_
  by_cases hc1 : f ≠ 0
  · refine gx_1t (c := .ne) rfl (by first | decide | omega) hc1 rfl ?_
    refine ex_go (S := (24, [(0, gx_r 1)], [.inl 0], t0, n, 0)) rfl (fun _ => rfl) rfl ?_
    refine ex_ret (r := (some (.inl 0), t0, n, 0)) rfl (fun _ => rfl) ?_
    exact ⟨_, rfl, 0, rfl, by omega⟩
  · refine gx_1f (c := .ne) rfl (by first | decide | omega) hc1 rfl ?_
    refine ex_go (S := (8, [(0, gx_r 1)], [gx_r 1], t0, n, 0)) rfl (fun _ => rfl) rfl ?_
    refine gxo_ref (a := 1) (c := 3) rfl s0.1 rfl rfl rfl rfl rfl ?_
    refine ex_go (S := (12, [(0, gx_r 1)], [gx_r 1, gx_r 3], t0, n, 0)) rfl (fun _ => rfl) rfl ?_
    refine gxo_get (a := 1) rfl s0.1 rfl rfl s0.2.1 rfl ?_
    obtain ⟨y2, ky2, hy2⟩ := cT_ty hT (a := a) (by first | decide | omega)
    refine gx_ag (v := .inl y2) (cb := fun c => Nat.beq c 0) rfl (fun _ => rfl) s0.1 rfl rfl ky2 (by first | decide | omega) rfl ?_
    by_cases hc3 : y2 = 0
    · refine gx_1t (c := .eq) rfl (by first | decide | omega) hc3 rfl ?_
      refine ex_go (S := (24, [(0, gx_r 1)], [.inl 0], t0, n, 0)) rfl (fun _ => rfl) rfl ?_
      refine ex_ret (r := (some (.inl 0), t0, n, 0)) rfl (fun _ => rfl) ?_
      exact ⟨_, rfl, 0, rfl, by omega⟩
    · refine gx_1f (c := .eq) rfl (by first | decide | omega) hc3 rfl ?_
      refine ex_go (S := (20, [(0, gx_r 1)], [.inl 1], t0, n, 0)) rfl (fun _ => rfl) rfl ?_
      refine ex_go (S := (24, [(0, gx_r 1)], [.inl 1], t0, n, 0)) rfl (fun _ => rfl) rfl ?_
      refine ex_ret (r := (some (.inl 1), t0, n, 0)) rfl (fun _ => rfl) ?_
      exact ⟨_, rfl, 1, rfl, by omega⟩
theorem pc_wrong (d n : Nat) {t0 : en_H} {a f w : Nat} {S : Nat → Nat} {m N : Nat} (s0 : cS t0 a f) (hT : cT t0 S m N) (ha : a ≤ N) (hw : w ≤ 5 ∧ 1 ≤ w) : ∃ r, en_u (d + 1) 226 [gx_r 1, .inl w] t0 n = some r ∧ ∃ t' a' f', r = (none, t', n, 0) ∧ cS t' a' f' ∧ cF t0 t' ∧ (a' = a ∧ (f ≠ 0 → f' = f) ∧ (f = 0 → f' = w + 16 * sp_st S m a)) := by
  have b0 := s0.2.2.2
  have hN := hT.2.2.2.2.2.2.1
  refine en_u_ex rfl ?_
  show en_ex _ _ _ _ (0, [(0, gx_r 1), (1, .inl w)], [], t0, n, 0) _
  refine ex_go (S := (1, [(0, gx_r 1), (1, .inl w)], [gx_r 1], t0, n, 0)) rfl (fun _ => rfl) rfl ?_
  refine gxo_get (a := 1) rfl s0.1 rfl rfl s0.2.2.1 rfl ?_
  by_cases hc1 : f ≠ 0
  · refine gx_1t (c := .ne) rfl (by first | decide | omega) hc1 rfl ?_
    refine ex_ret (r := (none, t0, n, 0)) rfl (fun _ => rfl) ?_
    exact ⟨_, rfl, t0, a, f, rfl, s0, (fun _ _ _ => rfl), by omega⟩
  · refine gx_1f (c := .ne) rfl (by first | decide | omega) hc1 rfl ?_
    refine ex_go (S := (8, [(0, gx_r 1), (1, .inl w)], [gx_r 1], t0, n, 0)) rfl (fun _ => rfl) rfl ?_
    refine ex_go (S := (9, [(0, gx_r 1), (1, .inl w)], [.inl w, gx_r 1], t0, n, 0)) rfl (fun _ => rfl) rfl ?_
    refine ex_go (S := (11, [(0, gx_r 1), (1, .inl w)], [.inl 16, .inl w, gx_r 1], t0, n, 0)) rfl (fun _ => rfl) rfl ?_
    refine ex_go (S := (12, [(0, gx_r 1), (1, .inl w)], [gx_r 1, .inl 16, .inl w, gx_r 1], t0, n, 0)) rfl (fun _ => rfl) rfl ?_
    refine gxo_ref (a := 1) (c := 4) rfl s0.1 rfl rfl rfl rfl rfl ?_
    refine ex_go (S := (16, [(0, gx_r 1), (1, .inl w)], [gx_r 1, gx_r 4, .inl 16, .inl w, gx_r 1], t0, n, 0)) rfl (fun _ => rfl) rfl ?_
    refine gxo_get (a := 1) rfl s0.1 rfl rfl s0.2.1 rfl ?_
    obtain ⟨k2, k2b⟩ := cT_st hT (a := a) (by first | decide | omega)
    refine gx_ag (v := .inl (sp_st S m a)) (cb := fun c => Nat.beq c 0) rfl (fun _ => rfl) s0.1 rfl rfl k2 (by first | decide | omega) rfl ?_
    refine gx_imul rfl (by first | decide | omega) rfl ?_
    refine ex_iadd rfl (by first | decide | omega) rfl ?_
    refine gxo_put (a := 1) rfl s0.1 rfl rfl rfl (ai_in_h (by first | decide | omega) (by first | decide | omega) (by first | decide | omega)) rfl (fun t103 g103 k103 e103 => ?_)
    have k4 : ai_hv t103 4 a = some (.inl (sp_st S m a)) := (e103 4 a (by first | decide | omega)).trans k2
    have s103 : cS t103 a (w + (16 * (sp_st S m a))) := ⟨g103, (e103 1 8 (by first | decide | omega)).trans s0.2.1, k103, s0.2.2.2.1, by omega⟩
    refine ex_ret (r := (none, t103, n, 0)) rfl (fun _ => rfl) ?_
    exact ⟨_, rfl, t103, a, w + (16 * (sp_st S m a)), rfl, s103, (fun c i h => e103 c i (by first | decide | omega)), by omega⟩
theorem pc_goOn (d n : Nat) {t0 : en_H} {a f : Nat} {S : Nat → Nat} {m N : Nat} (s0 : cS t0 a f) (hT : cT t0 S m N) (ha : a ≤ N) : ∃ r, en_u (d + 1) 227 [gx_r 1] t0 n = some r ∧ ∃ t' a' f', r = (none, t', n, 0) ∧ cS t' a' f' ∧ cF t0 t' ∧ ((f ≠ 0 → a' = a ∧ f' = f) ∧ (f = 0 → f' = 0 ∧ (a < N → a' = a + 1) ∧ (¬ a < N → a' = a))) := by
  have b0 := s0.2.2.2
  have hN := hT.2.2.2.2.2.2.1
  refine en_u_ex rfl ?_
  show en_ex _ _ _ _ (0, [(0, gx_r 1)], [], t0, n, 0) _
  refine ex_go (S := (1, [(0, gx_r 1)], [gx_r 1], t0, n, 0)) rfl (fun _ => rfl) rfl ?_
  refine gxo_get (a := 1) rfl s0.1 rfl rfl s0.2.2.1 rfl ?_
  by_cases hc1 : f ≠ 0
  · refine gx_1t (c := .ne) rfl (by first | decide | omega) hc1 rfl ?_
    refine ex_ret (r := (none, t0, n, 0)) rfl (fun _ => rfl) ?_
    exact ⟨_, rfl, t0, a, f, rfl, s0, (fun _ _ _ => rfl), by omega⟩
  · refine gx_1f (c := .ne) rfl (by first | decide | omega) hc1 rfl ?_
    refine ex_go (S := (8, [(0, gx_r 1)], [gx_r 1], t0, n, 0)) rfl (fun _ => rfl) rfl ?_
    refine gxo_get (a := 1) rfl s0.1 rfl rfl s0.2.1 rfl ?_
    refine ex_go (S := (12, [(0, gx_r 1)], [.inl 1, .inl a], t0, n, 0)) rfl (fun _ => rfl) rfl ?_
    refine ex_iadd rfl (by first | decide | omega) rfl ?_
    refine ex_go (S := (14, [(0, gx_r 1)], [gx_r 1, .inl (a + 1)], t0, n, 0)) rfl (fun _ => rfl) rfl ?_
    have k2 := (hT).2.2.2.2.2.1
    refine gxo_get (a := 1) rfl s0.1 rfl rfl k2 rfl ?_
    by_cases hc3 : N + 1 ≤ a + 1
    · refine gx_2t (c := .ge) rfl (by first | decide | omega) (by first | decide | omega) hc3 rfl ?_
      refine ex_ret (r := (none, t0, n, 0)) rfl (fun _ => rfl) ?_
      exact ⟨_, rfl, t0, a, f, rfl, s0, (fun _ _ _ => rfl), by omega⟩
    · refine gx_2f (c := .ge) rfl (by first | decide | omega) (by first | decide | omega) hc3 rfl ?_
      refine ex_go (S := (21, [(0, gx_r 1)], [gx_r 1], t0, n, 0)) rfl (fun _ => rfl) rfl ?_
      refine ex_go (S := (22, [(0, gx_r 1)], [gx_r 1, gx_r 1], t0, n, 0)) rfl (fun _ => rfl) rfl ?_
      refine gxo_get (a := 1) rfl s0.1 rfl rfl s0.2.1 rfl ?_
      refine ex_go (S := (26, [(0, gx_r 1)], [.inl 1, .inl a, gx_r 1], t0, n, 0)) rfl (fun _ => rfl) rfl ?_
      refine ex_iadd rfl (by first | decide | omega) rfl ?_
      refine gxo_put (a := 1) rfl s0.1 rfl rfl rfl (ai_in_h (by first | decide | omega) (by first | decide | omega) (by first | decide | omega)) rfl (fun t104 g104 k104 e104 => ?_)
      have k5 : ai_hv t104 1 7 = some (.inl (N + 1)) := (e104 1 7 (by first | decide | omega)).trans k2
      have s104 : cS t104 (a + 1) f := ⟨g104, k104, (e104 1 1 (by first | decide | omega)).trans s0.2.2.1, by omega, s0.2.2.2.2⟩
      refine ex_ret (r := (none, t104, n, 0)) rfl (fun _ => rfl) ?_
      exact ⟨_, rfl, t104, a + 1, f, rfl, s104, (fun c i h => e104 c i (by first | decide | omega)), by omega⟩
theorem pc_isWord (d n : Nat) {t0 : en_H} {a f w : Nat} {S : Nat → Nat} {m N : Nat} (s0 : cS t0 a f) (hT : cT t0 S m N) (ha : a ≤ N) (hw : w < 42) : ∃ r, en_u (d + 1) 225 [gx_r 1, gx_w w] t0 n = some r ∧ ∃ b, r = (some (.inl b), t0, n, 0) ∧ (b ≤ 1 ∧ (b = 1 ↔ sp_wd S m N a w)) := by
  have b0 := s0.2.2.2
  have hN := hT.2.2.2.2.2.2.1
  refine en_u_ex rfl ?_
  show en_ex _ _ _ _ (0, [(0, gx_r 1), (1, gx_w w)], [], t0, n, 0) _
  refine ex_go (S := (1, [(0, gx_r 1), (1, gx_w w)], [gx_r 1], t0, n, 0)) rfl (fun _ => rfl) rfl ?_
  refine gxo_ref (a := 1) (c := 6) rfl s0.1 rfl rfl rfl rfl rfl ?_
  refine ex_go (S := (5, [(0, gx_r 1), (1, gx_w w)], [gx_r 1, gx_r 6], t0, n, 0)) rfl (fun _ => rfl) rfl ?_
  refine gxo_get (a := 1) rfl s0.1 rfl rfl s0.2.1 rfl ?_
  obtain ⟨_, kw1, hww1⟩ := cT_wd hT (a := a) (by first | decide | omega)
  rcases hww1 with ⟨rfl, nw1⟩ | ⟨w1, bw1, rfl, yw1⟩
  · refine gx_ag (v := .inr (.inr (.inl none))) (cb := fun c => Nat.ble 4 c && Nat.ble c 7) rfl (fun _ => rfl) s0.1 rfl rfl kw1 (by first | decide | omega) rfl ?_
    refine ex_go (S := (10, [(0, gx_r 1), (1, gx_w w)], [gx_w w, .inr (.inr (.inl none))], t0, n, 0)) rfl (fun _ => rfl) rfl ?_
    refine ex_go (S := (17, [(0, gx_r 1), (1, gx_w w)], [], t0, n, 0)) rfl (fun _ => rfl) rfl ?_
    refine ex_go (S := (18, [(0, gx_r 1), (1, gx_w w)], [.inl 0], t0, n, 0)) rfl (fun _ => rfl) rfl ?_
    refine ex_ret (r := (some (.inl 0), t0, n, 0)) rfl (fun _ => rfl) ?_
    exact ⟨_, rfl, 0, rfl, by omega, ⟨fun z => by omega, fun z => absurd z (nw1 w hw)⟩⟩
  · refine gx_ag (v := gx_w w1) (cb := fun c => Nat.ble 4 c && Nat.ble c 7) rfl (fun _ => rfl) s0.1 rfl rfl kw1 (by first | decide | omega) rfl ?_
    refine ex_go (S := (10, [(0, gx_r 1), (1, gx_w w)], [gx_w w, gx_w w1], t0, n, 0)) rfl (fun _ => rfl) rfl ?_
    by_cases hc2 : w1 = w
    · refine gx_acnt rfl (by first | decide | omega) (by first | decide | omega) hc2 rfl ?_
      refine ex_go (S := (14, [(0, gx_r 1), (1, gx_w w)], [.inl 1], t0, n, 0)) rfl (fun _ => rfl) rfl ?_
      refine ex_go (S := (18, [(0, gx_r 1), (1, gx_w w)], [.inl 1], t0, n, 0)) rfl (fun _ => rfl) rfl ?_
      refine ex_ret (r := (some (.inl 1), t0, n, 0)) rfl (fun _ => rfl) ?_
      exact ⟨_, rfl, 1, rfl, by omega, ⟨fun _ => by rw [← hc2]; exact yw1, fun _ => rfl⟩⟩
    · refine gx_acnf rfl (by first | decide | omega) (by first | decide | omega) hc2 rfl ?_
      refine ex_go (S := (18, [(0, gx_r 1), (1, gx_w w)], [.inl 0], t0, n, 0)) rfl (fun _ => rfl) rfl ?_
      refine ex_ret (r := (some (.inl 0), t0, n, 0)) rfl (fun _ => rfl) ?_
      exact ⟨_, rfl, 0, rfl, by omega, ⟨fun z => by omega, fun z => absurd (sp_wd_one (by first | decide | omega) hw yw1 z) hc2⟩⟩
theorem pc_isNumber (d n : Nat) {t0 : en_H} {a f : Nat} {S : Nat → Nat} {m N : Nat} (s0 : cS t0 a f) (hT : cT t0 S m N) (ha : a ≤ N) : ∃ r, en_u (d + 1) 228 [gx_r 1] t0 n = some r ∧ ∃ b, r = (some (.inl b), t0, n, 0) ∧ (b ≤ 1 ∧ (b = 1 ↔ sp_kt S m N a = 2)) := by
  have b0 := s0.2.2.2
  have hN := hT.2.2.2.2.2.2.1
  refine en_u_ex rfl ?_
  show en_ex _ _ _ _ (0, [(0, gx_r 1)], [], t0, n, 0) _
  refine ex_go (S := (1, [(0, gx_r 1)], [gx_r 1], t0, n, 0)) rfl (fun _ => rfl) rfl ?_
  refine gxo_ref (a := 1) (c := 3) rfl s0.1 rfl rfl rfl rfl rfl ?_
  refine ex_go (S := (5, [(0, gx_r 1)], [gx_r 1, gx_r 3], t0, n, 0)) rfl (fun _ => rfl) rfl ?_
  refine gxo_get (a := 1) rfl s0.1 rfl rfl s0.2.1 rfl ?_
  obtain ⟨y1, ky1, hy1⟩ := cT_ty hT (a := a) (by first | decide | omega)
  refine gx_ag (v := .inl y1) (cb := fun c => Nat.beq c 0) rfl (fun _ => rfl) s0.1 rfl rfl ky1 (by first | decide | omega) rfl ?_
  refine ex_go (S := (10, [(0, gx_r 1)], [.inl 3, .inl y1], t0, n, 0)) rfl (fun _ => rfl) rfl ?_
  by_cases hc2 : y1 ≠ 3
  · refine gx_2t (c := .ne) rfl (by first | decide | omega) (by first | decide | omega) hc2 rfl ?_
    refine ex_go (S := (18, [(0, gx_r 1)], [.inl 0], t0, n, 0)) rfl (fun _ => rfl) rfl ?_
    refine ex_ret (r := (some (.inl 0), t0, n, 0)) rfl (fun _ => rfl) ?_
    exact ⟨_, rfl, 0, rfl, by omega⟩
  · refine gx_2f (c := .ne) rfl (by first | decide | omega) (by first | decide | omega) hc2 rfl ?_
    refine ex_go (S := (14, [(0, gx_r 1)], [.inl 1], t0, n, 0)) rfl (fun _ => rfl) rfl ?_
    refine ex_go (S := (18, [(0, gx_r 1)], [.inl 1], t0, n, 0)) rfl (fun _ => rfl) rfl ?_
    refine ex_ret (r := (some (.inl 1), t0, n, 0)) rfl (fun _ => rfl) ?_
    exact ⟨_, rfl, 1, rfl, by omega⟩
theorem pc_isSign (d n : Nat) {t0 : en_H} {a f w : Nat} {S : Nat → Nat} {m N : Nat} (s0 : cS t0 a f) (hT : cT t0 S m N) (ha : a ≤ N) (hw : w < 128) : ∃ r, en_u (d + 1) 230 [gx_r 1, .inl w] t0 n = some r ∧ ∃ b, r = (some (.inl b), t0, n, 0) ∧ (b ≤ 1 ∧ (b = 1 ↔ sp_sg S m N a w)) := by
  have b0 := s0.2.2.2
  have hN := hT.2.2.2.2.2.2.1
  refine en_u_ex rfl ?_
  show en_ex _ _ _ _ (0, [(0, gx_r 1), (1, .inl w)], [], t0, n, 0) _
  refine ex_go (S := (1, [(0, gx_r 1), (1, .inl w)], [gx_r 1], t0, n, 0)) rfl (fun _ => rfl) rfl ?_
  refine gxo_ref (a := 1) (c := 3) rfl s0.1 rfl rfl rfl rfl rfl ?_
  refine ex_go (S := (5, [(0, gx_r 1), (1, .inl w)], [gx_r 1, gx_r 3], t0, n, 0)) rfl (fun _ => rfl) rfl ?_
  refine gxo_get (a := 1) rfl s0.1 rfl rfl s0.2.1 rfl ?_
  obtain ⟨y1, ky1, hy1⟩ := cT_ty hT (a := a) (by first | decide | omega)
  refine gx_ag (v := .inl y1) (cb := fun c => Nat.beq c 0) rfl (fun _ => rfl) s0.1 rfl rfl ky1 (by first | decide | omega) rfl ?_
  refine ex_go (S := (10, [(0, gx_r 1), (1, .inl w)], [.inl 4, .inl y1], t0, n, 0)) rfl (fun _ => rfl) rfl ?_
  by_cases hc2 : y1 ≠ 4
  · refine gx_2t (c := .ne) rfl (by first | decide | omega) (by first | decide | omega) hc2 rfl ?_
    refine ex_go (S := (33, [(0, gx_r 1), (1, .inl w)], [.inl 0], t0, n, 0)) rfl (fun _ => rfl) rfl ?_
    refine ex_ret (r := (some (.inl 0), t0, n, 0)) rfl (fun _ => rfl) ?_
    exact ⟨_, rfl, 0, rfl, by omega, by rw [sp_sg_kt]; omega⟩
  · refine gx_2f (c := .ne) rfl (by first | decide | omega) (by first | decide | omega) hc2 rfl ?_
    refine ex_go (S := (14, [(0, gx_r 1), (1, .inl w)], [gx_r 1], t0, n, 0)) rfl (fun _ => rfl) rfl ?_
    refine gxo_ref (a := 1) (c := 5) rfl s0.1 rfl rfl rfl rfl rfl ?_
    refine ex_go (S := (18, [(0, gx_r 1), (1, .inl w)], [gx_r 1, gx_r 5], t0, n, 0)) rfl (fun _ => rfl) rfl ?_
    refine gxo_get (a := 1) rfl s0.1 rfl rfl s0.2.1 rfl ?_
    obtain ⟨k3, hsv⟩ := cT_sv hT (a := a) (by first | decide | omega)
    have hxi := sp_lN (show S (sp_st S m a) < 9223372036854775808 by omega)
    have hwi := gx_i2l (x := w) (by first | decide | omega)
    refine gx_ag (v := .inr (.inl (S (sp_st S m a)))) (cb := fun c => Nat.beq c 3) rfl (fun _ => rfl) s0.1 rfl rfl k3 (by first | decide | omega) rfl ?_
    refine ex_go (S := (23, [(0, gx_r 1), (1, .inl w)], [.inl w, .inr (.inl (S (sp_st S m a)))], t0, n, 0)) rfl (fun _ => rfl) rfl ?_
    refine ex_go (S := (24, [(0, gx_r 1), (1, .inl w)], [.inr (.inl ((nI w).toInt64.toBitVec.toNat)), .inr (.inl (S (sp_st S m a)))], t0, n, 0)) rfl (fun _ => rfl) rfl ?_
    refine gx_lcmp rfl rfl (fun hl4 => ?_) (fun hl4 => ?_) (fun hl4 => ?_)
    · refine ex_go (S := (28, [(0, gx_r 1), (1, .inl w)], [], t0, n, 0)) rfl (fun _ => rfl) rfl ?_
      refine ex_go (S := (29, [(0, gx_r 1), (1, .inl w)], [.inl 1], t0, n, 0)) rfl (fun _ => rfl) rfl ?_
      refine ex_go (S := (33, [(0, gx_r 1), (1, .inl w)], [.inl 1], t0, n, 0)) rfl (fun _ => rfl) rfl ?_
      refine ex_ret (r := (some (.inl 1), t0, n, 0)) rfl (fun _ => rfl) ?_
      exact ⟨_, rfl, 1, rfl, by omega, by rw [sp_sg_kt]; omega⟩
    · refine ex_go (S := (32, [(0, gx_r 1), (1, .inl w)], [], t0, n, 0)) rfl (fun _ => rfl) rfl ?_
      refine ex_go (S := (33, [(0, gx_r 1), (1, .inl w)], [.inl 0], t0, n, 0)) rfl (fun _ => rfl) rfl ?_
      refine ex_ret (r := (some (.inl 0), t0, n, 0)) rfl (fun _ => rfl) ?_
      exact ⟨_, rfl, 0, rfl, by omega, by rw [sp_sg_kt]; omega⟩
    · refine ex_go (S := (32, [(0, gx_r 1), (1, .inl w)], [], t0, n, 0)) rfl (fun _ => rfl) rfl ?_
      refine ex_go (S := (33, [(0, gx_r 1), (1, .inl w)], [.inl 0], t0, n, 0)) rfl (fun _ => rfl) rfl ?_
      refine ex_ret (r := (some (.inl 0), t0, n, 0)) rfl (fun _ => rfl) ?_
      exact ⟨_, rfl, 0, rfl, by omega, by rw [sp_sg_kt]; omega⟩
theorem pc_value (d n : Nat) {t0 : en_H} {a f : Nat} {S : Nat → Nat} {m N : Nat} (s0 : cS t0 a f) (hT : cT t0 S m N) (ha : a ≤ N) : ∃ r, en_u (d + 1) 229 [gx_r 1] t0 n = some r ∧ ∃ b, r = (some (.inl b), t0, n, 0) ∧ (b < 4294967296 ∧ (sp_kt S m N a = 2 → b = sp_nv S m a ∧ b < 10000)) := by
  have b0 := s0.2.2.2
  have hN := hT.2.2.2.2.2.2.1
  refine en_u_ex rfl ?_
  show en_ex _ _ _ _ (0, [(0, gx_r 1)], [], t0, n, 0) _
  by_cases hk : sp_kt S m N a = 2
  · refine ex_go (S := (1, [(0, gx_r 1)], [gx_r 1], t0, n, 0)) rfl (fun _ => rfl) rfl ?_
    refine gxo_ref (a := 1) (c := 5) rfl s0.1 rfl rfl rfl rfl rfl ?_
    refine ex_go (S := (5, [(0, gx_r 1)], [gx_r 1, gx_r 5], t0, n, 0)) rfl (fun _ => rfl) rfl ?_
    refine gxo_get (a := 1) rfl s0.1 rfl rfl s0.2.1 rfl ?_
    obtain ⟨k1, hnv⟩ := cT_nv hT hk
    have hni := sp_lN (show sp_nv S m a < 9223372036854775808 by omega)
    refine gx_ag (v := .inr (.inl (sp_nv S m a))) (cb := fun c => Nat.beq c 3) rfl (fun _ => rfl) s0.1 rfl rfl k1 (by first | decide | omega) rfl ?_
    refine ex_go (S := (10, [(0, gx_r 1)], [.inl ((lN (sp_nv S m a)).toInt32.toBitVec.toNat)], t0, n, 0)) rfl (fun _ => rfl) rfl ?_
    have hz : (lN (sp_nv S m a)).toInt32.toBitVec.toNat = sp_nv S m a := by
      have h9 := gx_l2i (m := sp_nv S m a) (lo := sp_nv S m a) (hi := sp_nv S m a) (by first | decide | omega) (by first | decide | omega) (by first | decide | omega)
      omega
    rw [hz]
    refine ex_ret (r := (some (.inl (sp_nv S m a)), t0, n, 0)) rfl (fun _ => rfl) ?_
    exact ⟨_, rfl, _, rfl, by omega, fun _ => ⟨rfl, by omega⟩⟩
  · refine ex_go (S := (1, [(0, gx_r 1)], [gx_r 1], t0, n, 0)) rfl (fun _ => rfl) rfl ?_
    refine gxo_ref (a := 1) (c := 5) rfl s0.1 rfl rfl rfl rfl rfl ?_
    refine ex_go (S := (5, [(0, gx_r 1)], [gx_r 1, gx_r 5], t0, n, 0)) rfl (fun _ => rfl) rfl ?_
    refine gxo_get (a := 1) rfl s0.1 rfl rfl s0.2.1 rfl ?_
    obtain ⟨x9, k1⟩ := gx_long_5 (i := a) s0.1 (by first | decide | omega)
    refine gx_ag (v := .inr (.inl x9)) (cb := fun c => Nat.beq c 3) rfl (fun _ => rfl) s0.1 rfl rfl k1 (by first | decide | omega) rfl ?_
    refine ex_go (S := (10, [(0, gx_r 1)], [.inl ((lN x9).toInt32.toBitVec.toNat)], t0, n, 0)) rfl (fun _ => rfl) rfl ?_
    have hz : (lN x9).toInt32.toBitVec.toNat < 4294967296 := (lN x9).toInt32.toBitVec.isLt
    generalize (lN x9).toInt32.toBitVec.toNat = z9 at hz ⊢
    refine ex_ret (r := (some (.inl z9), t0, n, 0)) rfl (fun _ => rfl) ?_
    exact ⟨_, rfl, _, rfl, by omega, fun z => absurd z hk⟩
theorem pc_word (d n : Nat) {t0 : en_H} {a f : Nat} {S : Nat → Nat} {m N : Nat} (s0 : cS t0 a f) (hT : cT t0 S m N) (ha : a ≤ N) : ∃ r, en_u (d + 1) 178 [gx_r 1] t0 n = some r ∧ ∃ wv, r = (some wv, t0, n, 0) ∧ ((wv = .inr (.inr (.inl none)) ∧ ∀ w, w < 42 → ¬ sp_wd S m N a w) ∨ ∃ w, w < 42 ∧ wv = gx_w w ∧ sp_wd S m N a w) := by
  have b0 := s0.2.2.2
  have hN := hT.2.2.2.2.2.2.1
  refine en_u_ex rfl ?_
  show en_ex _ _ _ _ (0, [(0, gx_r 1)], [], t0, n, 0) _
  refine ex_go (S := (1, [(0, gx_r 1)], [gx_r 1], t0, n, 0)) rfl (fun _ => rfl) rfl ?_
  refine gxo_ref (a := 1) (c := 6) rfl s0.1 rfl rfl rfl rfl rfl ?_
  refine ex_go (S := (5, [(0, gx_r 1)], [gx_r 1, gx_r 6], t0, n, 0)) rfl (fun _ => rfl) rfl ?_
  refine gxo_get (a := 1) rfl s0.1 rfl rfl s0.2.1 rfl ?_
  obtain ⟨_, kw1, hww1⟩ := cT_wd hT (a := a) (by first | decide | omega)
  rcases hww1 with ⟨rfl, nw1⟩ | ⟨w1, bw1, rfl, yw1⟩
  · refine gx_ag (v := .inr (.inr (.inl none))) (cb := fun c => Nat.ble 4 c && Nat.ble c 7) rfl (fun _ => rfl) s0.1 rfl rfl kw1 (by first | decide | omega) rfl ?_
    refine ex_ret (r := (some (.inr (.inr (.inl none))), t0, n, 0)) rfl (fun _ => rfl) ?_
    exact ⟨_, rfl, _, rfl, Or.inl ⟨rfl, nw1⟩⟩
  · refine gx_ag (v := gx_w w1) (cb := fun c => Nat.ble 4 c && Nat.ble c 7) rfl (fun _ => rfl) s0.1 rfl rfl kw1 (by first | decide | omega) rfl ?_
    refine ex_ret (r := (some (gx_w w1), t0, n, 0)) rfl (fun _ => rfl) ?_
    exact ⟨_, rfl, _, rfl, Or.inr ⟨w1, by omega, rfl, yw1⟩⟩
theorem pc_takeWord (d n : Nat) {t0 : en_H} {a f w : Nat} {S : Nat → Nat} {m N : Nat} (s0 : cS t0 a f) (hT : cT t0 S m N) (ha : a ≤ N) (hw : w < 42) : ∃ r, en_u (d + 2) 174 [gx_r 1, gx_w w] t0 n = some r ∧ ∃ t' a' f', r = (none, t', n, 0) ∧ cS t' a' f' ∧ cF t0 t' ∧ (a', f') = fw S m N w (a, f) ∧ (a' ≤ N ∧ a ≤ a' ∧ (f ≠ 0 → f' = f ∧ a' = a) ∧ (f' = 0 → f = 0 ∧ a' = a + 1)) := by
  have b0 := s0.2.2.2
  have hN := hT.2.2.2.2.2.2.1
  refine en_u_ex (d := d + 1) rfl ?_
  show en_ex _ _ _ _ (0, [(0, gx_r 1), (1, gx_w w)], [], t0, n, 0) _
  refine ex_go (S := (1, [(0, gx_r 1), (1, gx_w w)], [gx_r 1], t0, n, 0)) rfl (fun _ => rfl) rfl ?_
  refine ex_go (S := (2, [(0, gx_r 1), (1, gx_w w)], [gx_w w, gx_r 1], t0, n, 0)) rfl (fun _ => rfl) rfl ?_
  obtain ⟨_, r101, v101, rfl, q101⟩ := pc_isWord (d) n (s0) hT (by first | decide | omega) (w := w) (by first | decide | omega)
  refine gx_callo (a := 1) rfl rfl s0.1 rfl rfl rfl r101 rfl ?_
  show en_ex _ _ _ _ (5, [(0, gx_r 1), (1, gx_w w)], [.inl v101], t0, n, 0) _
  by_cases hc2 : v101 ≠ 0
  · refine gx_1t (c := .ne) rfl (by first | decide | omega) hc2 rfl ?_
    refine ex_go (S := (14, [(0, gx_r 1), (1, gx_w w)], [gx_r 1], t0, n, 0)) rfl (fun _ => rfl) rfl ?_
    obtain ⟨_, r103, t103, a103, f103, rfl, s103, e103, q103⟩ := pc_goOn (d) n (s0) hT (by first | decide | omega) 
    have b103 := s103.2.2.2
    refine gx_callo (a := 1) rfl rfl s0.1 rfl rfl rfl r103 rfl ?_
    show en_ex _ _ _ _ (17, [(0, gx_r 1), (1, gx_w w)], [], t103, n, 0) _
    refine ex_ret (r := (none, t103, n, 0)) rfl (fun _ => rfl) ?_
    have hpr := q101.2.mp (by first | decide | omega)
    have hlt : a < N := hpr.1
    refine ⟨_, rfl, t103, a103, f103, rfl, s103, (fun c i h => e103 c i (by first | decide | omega)), ?_, by omega⟩
    by_cases h0 : f = 0
    · rw [h0, fw_yes hpr]; exact Prod.ext (by show a103 = a + 1; omega) (by show f103 = 0; omega)
    · rw [fw_no h0]; exact Prod.ext (by show a103 = a; omega) (by show f103 = f; omega)
  · refine gx_1f (c := .ne) rfl (by first | decide | omega) hc2 rfl ?_
    refine ex_go (S := (9, [(0, gx_r 1), (1, gx_w w)], [gx_r 1], t0, n, 0)) rfl (fun _ => rfl) rfl ?_
    refine ex_go (S := (10, [(0, gx_r 1), (1, gx_w w)], [.inl 1, gx_r 1], t0, n, 0)) rfl (fun _ => rfl) rfl ?_
    obtain ⟨_, r104, t104, a104, f104, rfl, s104, e104, q104⟩ := pc_wrong (d) n (s0) hT (by first | decide | omega) (w := 1) (by first | decide | omega)
    have b104 := s104.2.2.2
    refine gx_callo (a := 1) rfl rfl s0.1 rfl rfl rfl r104 rfl ?_
    show en_ex _ _ _ _ (13, [(0, gx_r 1), (1, gx_w w)], [], t104, n, 0) _
    refine ex_go (S := (14, [(0, gx_r 1), (1, gx_w w)], [gx_r 1], t104, n, 0)) rfl (fun _ => rfl) rfl ?_
    have hT6 := cT_keep (t' := t104) hT (fun c i h => e104 c i (by first | decide | omega))
    obtain ⟨_, r105, t105, a105, f105, rfl, s105, e105, q105⟩ := pc_goOn (d) n (s104) hT6 (by first | decide | omega) 
    have b105 := s105.2.2.2
    refine gx_callo (a := 1) rfl rfl s104.1 rfl rfl rfl r105 rfl ?_
    show en_ex _ _ _ _ (17, [(0, gx_r 1), (1, gx_w w)], [], t105, n, 0) _
    refine ex_ret (r := (none, t105, n, 0)) rfl (fun _ => rfl) ?_
    have hpr : ¬ sp_wd S m N a w := fun z => absurd (q101.2.mpr z) (by first | decide | omega)
    refine ⟨_, rfl, t105, a105, f105, rfl, s105, (fun c i h => (e105 c i (by first | decide | omega)).trans (e104 c i (by first | decide | omega))), ?_, by omega⟩
    by_cases h0 : f = 0
    · rw [h0, fw_not hpr]; exact Prod.ext (by show a105 = a; omega) (by show f105 = 1 + 16 * sp_st S m a; omega)
    · rw [fw_no h0]; exact Prod.ext (by show a105 = a; omega) (by show f105 = f; omega)
theorem pc_takeSign (d n : Nat) {t0 : en_H} {a f w : Nat} {S : Nat → Nat} {m N : Nat} (s0 : cS t0 a f) (hT : cT t0 S m N) (ha : a ≤ N) (hw : w < 128) : ∃ r, en_u (d + 2) 176 [gx_r 1, .inl w] t0 n = some r ∧ ∃ t' a' f', r = (none, t', n, 0) ∧ cS t' a' f' ∧ cF t0 t' ∧ (a', f') = fs S m N w (a, f) ∧ (a' ≤ N ∧ a ≤ a' ∧ (f ≠ 0 → f' = f ∧ a' = a) ∧ (f' = 0 → f = 0 ∧ a' = a + 1)) := by
  have b0 := s0.2.2.2
  have hN := hT.2.2.2.2.2.2.1
  refine en_u_ex (d := d + 1) rfl ?_
  show en_ex _ _ _ _ (0, [(0, gx_r 1), (1, .inl w)], [], t0, n, 0) _
  refine ex_go (S := (1, [(0, gx_r 1), (1, .inl w)], [gx_r 1], t0, n, 0)) rfl (fun _ => rfl) rfl ?_
  refine ex_go (S := (2, [(0, gx_r 1), (1, .inl w)], [.inl w, gx_r 1], t0, n, 0)) rfl (fun _ => rfl) rfl ?_
  obtain ⟨_, r101, v101, rfl, q101⟩ := pc_isSign (d) n (s0) hT (by first | decide | omega) (w := w) (by first | decide | omega)
  refine gx_callo (a := 1) rfl rfl s0.1 rfl rfl rfl r101 rfl ?_
  show en_ex _ _ _ _ (5, [(0, gx_r 1), (1, .inl w)], [.inl v101], t0, n, 0) _
  by_cases hc2 : v101 ≠ 0
  · refine gx_1t (c := .ne) rfl (by first | decide | omega) hc2 rfl ?_
    refine ex_go (S := (14, [(0, gx_r 1), (1, .inl w)], [gx_r 1], t0, n, 0)) rfl (fun _ => rfl) rfl ?_
    obtain ⟨_, r103, t103, a103, f103, rfl, s103, e103, q103⟩ := pc_goOn (d) n (s0) hT (by first | decide | omega) 
    have b103 := s103.2.2.2
    refine gx_callo (a := 1) rfl rfl s0.1 rfl rfl rfl r103 rfl ?_
    show en_ex _ _ _ _ (17, [(0, gx_r 1), (1, .inl w)], [], t103, n, 0) _
    refine ex_ret (r := (none, t103, n, 0)) rfl (fun _ => rfl) ?_
    have hpr := q101.2.mp (by first | decide | omega)
    have hlt : a < N := hpr.1
    refine ⟨_, rfl, t103, a103, f103, rfl, s103, (fun c i h => e103 c i (by first | decide | omega)), ?_, by omega⟩
    by_cases h0 : f = 0
    · rw [h0, fs_yes hpr]; exact Prod.ext (by show a103 = a + 1; omega) (by show f103 = 0; omega)
    · rw [fs_no h0]; exact Prod.ext (by show a103 = a; omega) (by show f103 = f; omega)
  · refine gx_1f (c := .ne) rfl (by first | decide | omega) hc2 rfl ?_
    refine ex_go (S := (9, [(0, gx_r 1), (1, .inl w)], [gx_r 1], t0, n, 0)) rfl (fun _ => rfl) rfl ?_
    refine ex_go (S := (10, [(0, gx_r 1), (1, .inl w)], [.inl 1, gx_r 1], t0, n, 0)) rfl (fun _ => rfl) rfl ?_
    obtain ⟨_, r104, t104, a104, f104, rfl, s104, e104, q104⟩ := pc_wrong (d) n (s0) hT (by first | decide | omega) (w := 1) (by first | decide | omega)
    have b104 := s104.2.2.2
    refine gx_callo (a := 1) rfl rfl s0.1 rfl rfl rfl r104 rfl ?_
    show en_ex _ _ _ _ (13, [(0, gx_r 1), (1, .inl w)], [], t104, n, 0) _
    refine ex_go (S := (14, [(0, gx_r 1), (1, .inl w)], [gx_r 1], t104, n, 0)) rfl (fun _ => rfl) rfl ?_
    have hT6 := cT_keep (t' := t104) hT (fun c i h => e104 c i (by first | decide | omega))
    obtain ⟨_, r105, t105, a105, f105, rfl, s105, e105, q105⟩ := pc_goOn (d) n (s104) hT6 (by first | decide | omega) 
    have b105 := s105.2.2.2
    refine gx_callo (a := 1) rfl rfl s104.1 rfl rfl rfl r105 rfl ?_
    show en_ex _ _ _ _ (17, [(0, gx_r 1), (1, .inl w)], [], t105, n, 0) _
    refine ex_ret (r := (none, t105, n, 0)) rfl (fun _ => rfl) ?_
    have hpr : ¬ sp_sg S m N a w := fun z => absurd (q101.2.mpr z) (by first | decide | omega)
    refine ⟨_, rfl, t105, a105, f105, rfl, s105, (fun c i h => (e105 c i (by first | decide | omega)).trans (e104 c i (by first | decide | omega))), ?_, by omega⟩
    by_cases h0 : f = 0
    · rw [h0, fs_not hpr]; exact Prod.ext (by show a105 = a; omega) (by show f105 = 1 + 16 * sp_st S m a; omega)
    · rw [fs_no h0]; exact Prod.ext (by show a105 = a; omega) (by show f105 = f; omega)
theorem pc_takeNumber (d n : Nat) {t0 : en_H} {a f lo hi : Nat} {S : Nat → Nat} {m N : Nat} (s0 : cS t0 a f) (hT : cT t0 S m N) (ha : a ≤ N) (h1 : lo < 2147483648) (h3 : hi < 4294967296) (h2 : f = 0 → hi < 2147483648) : ∃ r, en_u (d + 2) 175 [gx_r 1, .inl lo, .inl hi] t0 n = some r ∧ ∃ v t' a' f', r = (some (.inl v), t', n, 0) ∧ cS t' a' f' ∧ cF t0 t' ∧ (a', f') = fn S m N lo hi (a, f) ∧ (v < 10000 ∧ a' ≤ N ∧ a ≤ a' ∧ (f ≠ 0 → f' = f ∧ a' = a) ∧ (f' = 0 → f = 0 ∧ a' = a + 1 ∧ v = sp_nv S m a ∧ lo ≤ v ∧ v ≤ hi)) := by
  have b0 := s0.2.2.2
  have hN := hT.2.2.2.2.2.2.1
  refine en_u_ex (d := d + 1) rfl ?_
  show en_ex _ _ _ _ (0, [(0, gx_r 1), (1, .inl lo), (2, .inl hi)], [], t0, n, 0) _
  refine ex_go (S := (1, [(0, gx_r 1), (1, .inl lo), (2, .inl hi)], [gx_r 1], t0, n, 0)) rfl (fun _ => rfl) rfl ?_
  obtain ⟨_, r101, v101, rfl, q101⟩ := pc_isNumber (d) n (s0) hT (by first | decide | omega) 
  refine gx_callo (a := 1) rfl rfl s0.1 rfl rfl rfl r101 rfl ?_
  show en_ex _ _ _ _ (4, [(0, gx_r 1), (1, .inl lo), (2, .inl hi)], [.inl v101], t0, n, 0) _
  by_cases hc2 : v101 ≠ 0
  · refine gx_1t (c := .ne) rfl (by first | decide | omega) hc2 rfl ?_
    refine ex_go (S := (15, [(0, gx_r 1), (1, .inl lo), (2, .inl hi)], [gx_r 1], t0, n, 0)) rfl (fun _ => rfl) rfl ?_
    have hkt := q101.2.mp (by first | decide | omega)
    have hlt := sp_kt_lt (S := S) (m := m) (N := N) (a := a) (by first | decide | omega)
    obtain ⟨_, r103, v103, rfl, q103⟩ := pc_value (d) n (s0) hT (by first | decide | omega) 
    refine gx_callo (a := 1) rfl rfl s0.1 rfl rfl rfl r103 rfl ?_
    show en_ex _ _ _ _ (18, [(0, gx_r 1), (1, .inl lo), (2, .inl hi)], [.inl v103], t0, n, 0) _
    obtain ⟨hva, hvb⟩ := q103.2 hkt
    refine ex_go (S := (19, [(3, .inl v103), (0, gx_r 1), (1, .inl lo), (2, .inl hi)], [], t0, n, 0)) rfl (fun _ => rfl) rfl ?_
    refine ex_go (S := (20, [(3, .inl v103), (0, gx_r 1), (1, .inl lo), (2, .inl hi)], [.inl v103], t0, n, 0)) rfl (fun _ => rfl) rfl ?_
    refine ex_go (S := (21, [(3, .inl v103), (0, gx_r 1), (1, .inl lo), (2, .inl hi)], [.inl lo, .inl v103], t0, n, 0)) rfl (fun _ => rfl) rfl ?_
    refine ex_go (S := (22, [(3, .inl v103), (0, gx_r 1), (1, .inl lo), (2, .inl hi)], [.inl hi, .inl lo, .inl v103], t0, n, 0)) rfl (fun _ => rfl) rfl ?_
    obtain ⟨_, r4, b5, rfl, q6⟩ := pc_isWithin (d) n (t0 := t0) (x := v103) (lo := lo) (hi := hi) (by first | decide | omega) (by first | decide | omega) (by first | decide | omega)
    refine ex_stat rfl rfl rfl rfl rfl r4 (Nat.le_refl _) rfl ?_
    show en_ex _ _ _ _ (25, [(3, .inl v103), (0, gx_r 1), (1, .inl lo), (2, .inl hi)], [.inl b5], t0, n, 0) _
    by_cases hc7 : b5 ≠ 0
    · refine gx_1t (c := .ne) rfl (by first | decide | omega) hc7 rfl ?_
      refine ex_go (S := (34, [(3, .inl v103), (0, gx_r 1), (1, .inl lo), (2, .inl hi)], [gx_r 1], t0, n, 0)) rfl (fun _ => rfl) rfl ?_
      obtain ⟨_, r108, t108, a108, f108, rfl, s108, e108, q108⟩ := pc_goOn (d) n (s0) hT (by first | decide | omega) 
      have b108 := s108.2.2.2
      refine gx_callo (a := 1) rfl rfl s0.1 rfl rfl rfl r108 rfl ?_
      show en_ex _ _ _ _ (37, [(3, .inl v103), (0, gx_r 1), (1, .inl lo), (2, .inl hi)], [], t108, n, 0) _
      refine ex_go (S := (38, [(3, .inl v103), (0, gx_r 1), (1, .inl lo), (2, .inl hi)], [.inl v103], t108, n, 0)) rfl (fun _ => rfl) rfl ?_
      refine ex_ret (r := (some (.inl v103), t108, n, 0)) rfl (fun _ => rfl) ?_
      refine ⟨_, rfl, v103, t108, a108, f108, rfl, s108, (fun c i h => e108 c i (by first | decide | omega)), ?_, ?_⟩
      · by_cases h0 : f = 0
        · have hin := (q6.2 (h2 h0)).mp (by first | decide | omega)
          rw [h0, fn_yes hkt (by first | decide | omega) (by first | decide | omega)]; exact Prod.ext (by show a108 = a + 1; omega) (by show f108 = 0; omega)
        · rw [fn_no h0]; exact Prod.ext (by show a108 = a; omega) (by show f108 = f; omega)
      · by_cases h0 : f = 0
        · have hin := q6.2 (h2 h0)
          omega
        · omega
    · refine gx_1f (c := .ne) rfl (by first | decide | omega) hc7 rfl ?_
      refine ex_go (S := (29, [(3, .inl v103), (0, gx_r 1), (1, .inl lo), (2, .inl hi)], [gx_r 1], t0, n, 0)) rfl (fun _ => rfl) rfl ?_
      refine ex_go (S := (30, [(3, .inl v103), (0, gx_r 1), (1, .inl lo), (2, .inl hi)], [.inl 4, gx_r 1], t0, n, 0)) rfl (fun _ => rfl) rfl ?_
      obtain ⟨_, r109, t109, a109, f109, rfl, s109, e109, q109⟩ := pc_wrong (d) n (s0) hT (by first | decide | omega) (w := 4) (by first | decide | omega)
      have b109 := s109.2.2.2
      refine gx_callo (a := 1) rfl rfl s0.1 rfl rfl rfl r109 rfl ?_
      show en_ex _ _ _ _ (33, [(3, .inl v103), (0, gx_r 1), (1, .inl lo), (2, .inl hi)], [], t109, n, 0) _
      refine ex_go (S := (34, [(3, .inl v103), (0, gx_r 1), (1, .inl lo), (2, .inl hi)], [gx_r 1], t109, n, 0)) rfl (fun _ => rfl) rfl ?_
      have hT11 := cT_keep (t' := t109) hT (fun c i h => e109 c i (by first | decide | omega))
      obtain ⟨_, r110, t110, a110, f110, rfl, s110, e110, q110⟩ := pc_goOn (d) n (s109) hT11 (by first | decide | omega) 
      have b110 := s110.2.2.2
      refine gx_callo (a := 1) rfl rfl s109.1 rfl rfl rfl r110 rfl ?_
      show en_ex _ _ _ _ (37, [(3, .inl v103), (0, gx_r 1), (1, .inl lo), (2, .inl hi)], [], t110, n, 0) _
      refine ex_go (S := (38, [(3, .inl v103), (0, gx_r 1), (1, .inl lo), (2, .inl hi)], [.inl v103], t110, n, 0)) rfl (fun _ => rfl) rfl ?_
      refine ex_ret (r := (some (.inl v103), t110, n, 0)) rfl (fun _ => rfl) ?_
      refine ⟨_, rfl, v103, t110, a110, f110, rfl, s110, (fun c i h => (e110 c i (by first | decide | omega)).trans (e109 c i (by first | decide | omega))), ?_, ?_⟩
      · by_cases h0 : f = 0
        · have hin : ¬ (lo ≤ v103 ∧ v103 ≤ hi) := fun z => absurd ((q6.2 (h2 h0)).mpr z) (by first | decide | omega)
          rw [h0, fn_4 hkt (by first | decide | omega)]; exact Prod.ext (by show a110 = a; omega) (by show f110 = 4 + 16 * sp_st S m a; omega)
        · rw [fn_no h0]; exact Prod.ext (by show a110 = a; omega) (by show f110 = f; omega)
      · by_cases h0 : f = 0
        · have hin := q6.2 (h2 h0)
          omega
        · omega
  · refine gx_1f (c := .ne) rfl (by first | decide | omega) hc2 rfl ?_
    refine ex_go (S := (8, [(0, gx_r 1), (1, .inl lo), (2, .inl hi)], [gx_r 1], t0, n, 0)) rfl (fun _ => rfl) rfl ?_
    refine ex_go (S := (9, [(0, gx_r 1), (1, .inl lo), (2, .inl hi)], [.inl 1, gx_r 1], t0, n, 0)) rfl (fun _ => rfl) rfl ?_
    obtain ⟨_, r112, t112, a112, f112, rfl, s112, e112, q112⟩ := pc_wrong (d) n (s0) hT (by first | decide | omega) (w := 1) (by first | decide | omega)
    have b112 := s112.2.2.2
    refine gx_callo (a := 1) rfl rfl s0.1 rfl rfl rfl r112 rfl ?_
    show en_ex _ _ _ _ (12, [(0, gx_r 1), (1, .inl lo), (2, .inl hi)], [], t112, n, 0) _
    refine ex_go (S := (13, [(0, gx_r 1), (1, .inl lo), (2, .inl hi)], [.inl 0], t112, n, 0)) rfl (fun _ => rfl) rfl ?_
    refine ex_ret (r := (some (.inl 0), t112, n, 0)) rfl (fun _ => rfl) ?_
    have hkt : sp_kt S m N a ≠ 2 := fun z => absurd (q101.2.mpr z) (by first | decide | omega)
    refine ⟨_, rfl, 0, t112, a112, f112, rfl, s112, (fun c i h => e112 c i (by first | decide | omega)), ?_, by omega⟩
    by_cases h0 : f = 0
    · rw [h0, fn_1 hkt]; exact Prod.ext (by show a112 = a; omega) (by show f112 = 1 + 16 * sp_st S m a; omega)
    · rw [fn_no h0]; exact Prod.ext (by show a112 = a; omega) (by show f112 = f; omega)
theorem pc_takeRank1 (d n : Nat) {t0 : en_H} {a f : Nat} {S : Nat → Nat} {m N : Nat} (s0 : cS t0 a f) (hT : cT t0 S m N) (ha : a ≤ N) : ∃ r, en_u (d + 2) 265 [gx_r 1, .inl 1] t0 n = some r ∧ ∃ v t' a' f', r = (some (.inl v), t', n, 0) ∧ cS t' a' f' ∧ cF t0 t' ∧ (a', f') = fo S m N 26 5 (a, f) ∧ (v ≤ 4 ∧ a' ≤ N ∧ a ≤ a' ∧ (f ≠ 0 → f' = f ∧ a' = a) ∧ (f' = 0 → f = 0 ∧ a' = a + 1)) ∧ (f' = 0 → v < 5 ∧ sp_wd S m N a (26 + v)) := by
  have b0 := s0.2.2.2
  have hN := hT.2.2.2.2.2.2.1
  refine en_u_ex (d := d + 1) rfl ?_
  show en_ex _ _ _ _ (0, [(0, gx_r 1), (1, .inl 1)], [], t0, n, 0) _
  refine ex_go (S := (1, [(0, gx_r 1), (1, .inl 1)], [gx_r 1], t0, n, 0)) rfl (fun _ => rfl) rfl ?_
  refine gxo_ref (a := 1) (c := 6) rfl s0.1 rfl rfl rfl rfl rfl ?_
  refine ex_go (S := (5, [(0, gx_r 1), (1, .inl 1)], [gx_r 1, gx_r 6], t0, n, 0)) rfl (fun _ => rfl) rfl ?_
  refine gxo_get (a := 1) rfl s0.1 rfl rfl s0.2.1 rfl ?_
  obtain ⟨_, kw1, hww1⟩ := cT_wd hT (a := a) (by first | decide | omega)
  rcases hww1 with ⟨rfl, nw1⟩ | ⟨w1, bw1, rfl, yw1⟩
  · refine gx_ag (v := .inr (.inr (.inl none))) (cb := fun c => Nat.ble 4 c && Nat.ble c 7) rfl (fun _ => rfl) s0.1 rfl rfl kw1 (by first | decide | omega) rfl ?_
    refine ex_go (S := (10, [(2, .inr (.inr (.inl none))), (0, gx_r 1), (1, .inl 1)], [], t0, n, 0)) rfl (fun _ => rfl) rfl ?_
    refine ex_go (S := (11, [(2, .inr (.inr (.inl none))), (0, gx_r 1), (1, .inl 1)], [.inr (.inr (.inl none))], t0, n, 0)) rfl (fun _ => rfl) rfl ?_
    refine ex_go (S := (22, [(2, .inr (.inr (.inl none))), (0, gx_r 1), (1, .inl 1)], [], t0, n, 0)) rfl (fun _ => rfl) rfl ?_
    refine ex_go (S := (23, [(2, .inr (.inr (.inl none))), (0, gx_r 1), (1, .inl 1)], [gx_r 1], t0, n, 0)) rfl (fun _ => rfl) rfl ?_
    refine ex_go (S := (24, [(2, .inr (.inr (.inl none))), (0, gx_r 1), (1, .inl 1)], [.inl 1, gx_r 1], t0, n, 0)) rfl (fun _ => rfl) rfl ?_
    obtain ⟨_, r102, t102, a102, f102, rfl, s102, e102, q102⟩ := pc_wrong (d) n (s0) hT (by first | decide | omega) (w := 1) (by first | decide | omega)
    have b102 := s102.2.2.2
    refine gx_callo (a := 1) rfl rfl s0.1 rfl rfl rfl r102 rfl ?_
    have k3 : ai_hv t102 6 a = some (.inr (.inr (.inl none))) := (e102 6 a (by first | decide | omega)).trans kw1
    show en_ex _ _ _ _ (27, [(2, .inr (.inr (.inl none))), (0, gx_r 1), (1, .inl 1)], [], t102, n, 0) _
    refine ex_go (S := (28, [(2, .inr (.inr (.inl none))), (0, gx_r 1), (1, .inl 1)], [.inl 0], t102, n, 0)) rfl (fun _ => rfl) rfl ?_
    refine ex_ret (r := (some (.inl 0), t102, n, 0)) rfl (fun _ => rfl) ?_
    have hno : ∀ j, j < 5 → ¬ sp_wd S m N a (26 + j) := fun j hj => nw1 _ (by first | decide | omega)
    refine ⟨_, rfl, 0, t102, a102, f102, rfl, s102, (fun c i h => e102 c i (by first | decide | omega)), ?_, by omega, fun z => by omega⟩
    by_cases h0 : f = 0
    · rw [h0, fo_not hno]; exact Prod.ext (by show a102 = a; omega) (by show f102 = 1 + 16 * sp_st S m a; omega)
    · rw [fo_no h0]; exact Prod.ext (by show a102 = a; omega) (by show f102 = f; omega)
  · refine gx_ag (v := gx_w w1) (cb := fun c => Nat.ble 4 c && Nat.ble c 7) rfl (fun _ => rfl) s0.1 rfl rfl kw1 (by first | decide | omega) rfl ?_
    refine ex_go (S := (10, [(2, gx_w w1), (0, gx_r 1), (1, .inl 1)], [], t0, n, 0)) rfl (fun _ => rfl) rfl ?_
    refine ex_go (S := (11, [(2, gx_w w1), (0, gx_r 1), (1, .inl 1)], [gx_w w1], t0, n, 0)) rfl (fun _ => rfl) rfl ?_
    refine ex_go (S := (14, [(2, gx_w w1), (0, gx_r 1), (1, .inl 1)], [], t0, n, 0)) rfl (fun _ => rfl) rfl ?_
    refine ex_go (S := (15, [(2, gx_w w1), (0, gx_r 1), (1, .inl 1)], [gx_w w1], t0, n, 0)) rfl (fun _ => rfl) rfl ?_
    have hg4 := wd_gle (w := w1) (by first | decide | omega)
    refine gx_wgrp rfl rfl (by first | decide | omega) rfl ?_
    refine ex_go (S := (19, [(2, gx_w w1), (0, gx_r 1), (1, .inl 1)], [.inl 1, .inl (wd_g w1)], t0, n, 0)) rfl (fun _ => rfl) rfl ?_
    by_cases hc5 : wd_g w1 = 1
    · refine gx_2t (c := .eq) rfl (by first | decide | omega) (by first | decide | omega) hc5 rfl ?_
      refine ex_go (S := (30, [(2, gx_w w1), (0, gx_r 1), (1, .inl 1)], [gx_r 1], t0, n, 0)) rfl (fun _ => rfl) rfl ?_
      obtain ⟨_, r106, t106, a106, f106, rfl, s106, e106, q106⟩ := pc_goOn (d) n (s0) hT (by first | decide | omega) 
      have b106 := s106.2.2.2
      refine gx_callo (a := 1) rfl rfl s0.1 rfl rfl rfl r106 rfl ?_
      have k7 : ai_hv t106 6 a = some (gx_w w1) := (e106 6 a (by first | decide | omega)).trans kw1
      show en_ex _ _ _ _ (33, [(2, gx_w w1), (0, gx_r 1), (1, .inl 1)], [], t106, n, 0) _
      refine ex_go (S := (34, [(2, gx_w w1), (0, gx_r 1), (1, .inl 1)], [gx_w w1], t106, n, 0)) rfl (fun _ => rfl) rfl ?_
      refine gx_wrnk rfl rfl (by first | decide | omega) rfl ?_
      refine ex_ret (r := (some (.inl (wd_r w1)), t106, n, 0)) rfl (fun _ => rfl) ?_
      have hrr := wd_rle (w := w1) (by first | decide | omega)
      have hlt : a < N := yw1.1
      have hwd : sp_wd S m N a (26 + wd_r w1) := by rw [show 26 + wd_r w1 = w1 by omega]; exact yw1
      refine ⟨_, rfl, wd_r w1, t106, a106, f106, rfl, s106, (fun c i h => e106 c i (by first | decide | omega)), ?_, by omega, fun _ => ⟨by omega, hwd⟩⟩
      by_cases h0 : f = 0
      · rw [h0, fo_yes (v := wd_r w1) (by first | decide | omega) hwd]; exact Prod.ext (by show a106 = a + 1; omega) (by show f106 = 0; omega)
      · rw [fo_no h0]; exact Prod.ext (by show a106 = a; omega) (by show f106 = f; omega)
    · refine gx_2f (c := .eq) rfl (by first | decide | omega) (by first | decide | omega) hc5 rfl ?_
      refine ex_go (S := (23, [(2, gx_w w1), (0, gx_r 1), (1, .inl 1)], [gx_r 1], t0, n, 0)) rfl (fun _ => rfl) rfl ?_
      refine ex_go (S := (24, [(2, gx_w w1), (0, gx_r 1), (1, .inl 1)], [.inl 1, gx_r 1], t0, n, 0)) rfl (fun _ => rfl) rfl ?_
      obtain ⟨_, r108, t108, a108, f108, rfl, s108, e108, q108⟩ := pc_wrong (d) n (s0) hT (by first | decide | omega) (w := 1) (by first | decide | omega)
      have b108 := s108.2.2.2
      refine gx_callo (a := 1) rfl rfl s0.1 rfl rfl rfl r108 rfl ?_
      have k9 : ai_hv t108 6 a = some (gx_w w1) := (e108 6 a (by first | decide | omega)).trans kw1
      show en_ex _ _ _ _ (27, [(2, gx_w w1), (0, gx_r 1), (1, .inl 1)], [], t108, n, 0) _
      refine ex_go (S := (28, [(2, gx_w w1), (0, gx_r 1), (1, .inl 1)], [.inl 0], t108, n, 0)) rfl (fun _ => rfl) rfl ?_
      refine ex_ret (r := (some (.inl 0), t108, n, 0)) rfl (fun _ => rfl) ?_
      have hno : ∀ j, j < 5 → ¬ sp_wd S m N a (26 + j) := fun j hj z => by
        have := sp_wd_one (by first | decide | omega) (by first | decide | omega) yw1 z
        omega
      refine ⟨_, rfl, 0, t108, a108, f108, rfl, s108, (fun c i h => e108 c i (by first | decide | omega)), ?_, by omega, fun z => by omega⟩
      by_cases h0 : f = 0
      · rw [h0, fo_not hno]; exact Prod.ext (by show a108 = a; omega) (by show f108 = 1 + 16 * sp_st S m a; omega)
      · rw [fo_no h0]; exact Prod.ext (by show a108 = a; omega) (by show f108 = f; omega)
theorem pc_takeRank2 (d n : Nat) {t0 : en_H} {a f : Nat} {S : Nat → Nat} {m N : Nat} (s0 : cS t0 a f) (hT : cT t0 S m N) (ha : a ≤ N) : ∃ r, en_u (d + 2) 265 [gx_r 1, .inl 2] t0 n = some r ∧ ∃ v t' a' f', r = (some (.inl v), t', n, 0) ∧ cS t' a' f' ∧ cF t0 t' ∧ (a', f') = fo S m N 31 4 (a, f) ∧ (v ≤ 4 ∧ a' ≤ N ∧ a ≤ a' ∧ (f ≠ 0 → f' = f ∧ a' = a) ∧ (f' = 0 → f = 0 ∧ a' = a + 1)) ∧ (f' = 0 → v < 4 ∧ sp_wd S m N a (31 + v)) := by
  have b0 := s0.2.2.2
  have hN := hT.2.2.2.2.2.2.1
  refine en_u_ex (d := d + 1) rfl ?_
  show en_ex _ _ _ _ (0, [(0, gx_r 1), (1, .inl 2)], [], t0, n, 0) _
  refine ex_go (S := (1, [(0, gx_r 1), (1, .inl 2)], [gx_r 1], t0, n, 0)) rfl (fun _ => rfl) rfl ?_
  refine gxo_ref (a := 1) (c := 6) rfl s0.1 rfl rfl rfl rfl rfl ?_
  refine ex_go (S := (5, [(0, gx_r 1), (1, .inl 2)], [gx_r 1, gx_r 6], t0, n, 0)) rfl (fun _ => rfl) rfl ?_
  refine gxo_get (a := 1) rfl s0.1 rfl rfl s0.2.1 rfl ?_
  obtain ⟨_, kw1, hww1⟩ := cT_wd hT (a := a) (by first | decide | omega)
  rcases hww1 with ⟨rfl, nw1⟩ | ⟨w1, bw1, rfl, yw1⟩
  · refine gx_ag (v := .inr (.inr (.inl none))) (cb := fun c => Nat.ble 4 c && Nat.ble c 7) rfl (fun _ => rfl) s0.1 rfl rfl kw1 (by first | decide | omega) rfl ?_
    refine ex_go (S := (10, [(2, .inr (.inr (.inl none))), (0, gx_r 1), (1, .inl 2)], [], t0, n, 0)) rfl (fun _ => rfl) rfl ?_
    refine ex_go (S := (11, [(2, .inr (.inr (.inl none))), (0, gx_r 1), (1, .inl 2)], [.inr (.inr (.inl none))], t0, n, 0)) rfl (fun _ => rfl) rfl ?_
    refine ex_go (S := (22, [(2, .inr (.inr (.inl none))), (0, gx_r 1), (1, .inl 2)], [], t0, n, 0)) rfl (fun _ => rfl) rfl ?_
    refine ex_go (S := (23, [(2, .inr (.inr (.inl none))), (0, gx_r 1), (1, .inl 2)], [gx_r 1], t0, n, 0)) rfl (fun _ => rfl) rfl ?_
    refine ex_go (S := (24, [(2, .inr (.inr (.inl none))), (0, gx_r 1), (1, .inl 2)], [.inl 1, gx_r 1], t0, n, 0)) rfl (fun _ => rfl) rfl ?_
    obtain ⟨_, r102, t102, a102, f102, rfl, s102, e102, q102⟩ := pc_wrong (d) n (s0) hT (by first | decide | omega) (w := 1) (by first | decide | omega)
    have b102 := s102.2.2.2
    refine gx_callo (a := 1) rfl rfl s0.1 rfl rfl rfl r102 rfl ?_
    have k3 : ai_hv t102 6 a = some (.inr (.inr (.inl none))) := (e102 6 a (by first | decide | omega)).trans kw1
    show en_ex _ _ _ _ (27, [(2, .inr (.inr (.inl none))), (0, gx_r 1), (1, .inl 2)], [], t102, n, 0) _
    refine ex_go (S := (28, [(2, .inr (.inr (.inl none))), (0, gx_r 1), (1, .inl 2)], [.inl 0], t102, n, 0)) rfl (fun _ => rfl) rfl ?_
    refine ex_ret (r := (some (.inl 0), t102, n, 0)) rfl (fun _ => rfl) ?_
    have hno : ∀ j, j < 4 → ¬ sp_wd S m N a (31 + j) := fun j hj => nw1 _ (by first | decide | omega)
    refine ⟨_, rfl, 0, t102, a102, f102, rfl, s102, (fun c i h => e102 c i (by first | decide | omega)), ?_, by omega, fun z => by omega⟩
    by_cases h0 : f = 0
    · rw [h0, fo_not hno]; exact Prod.ext (by show a102 = a; omega) (by show f102 = 1 + 16 * sp_st S m a; omega)
    · rw [fo_no h0]; exact Prod.ext (by show a102 = a; omega) (by show f102 = f; omega)
  · refine gx_ag (v := gx_w w1) (cb := fun c => Nat.ble 4 c && Nat.ble c 7) rfl (fun _ => rfl) s0.1 rfl rfl kw1 (by first | decide | omega) rfl ?_
    refine ex_go (S := (10, [(2, gx_w w1), (0, gx_r 1), (1, .inl 2)], [], t0, n, 0)) rfl (fun _ => rfl) rfl ?_
    refine ex_go (S := (11, [(2, gx_w w1), (0, gx_r 1), (1, .inl 2)], [gx_w w1], t0, n, 0)) rfl (fun _ => rfl) rfl ?_
    refine ex_go (S := (14, [(2, gx_w w1), (0, gx_r 1), (1, .inl 2)], [], t0, n, 0)) rfl (fun _ => rfl) rfl ?_
    refine ex_go (S := (15, [(2, gx_w w1), (0, gx_r 1), (1, .inl 2)], [gx_w w1], t0, n, 0)) rfl (fun _ => rfl) rfl ?_
    have hg4 := wd_gle (w := w1) (by first | decide | omega)
    refine gx_wgrp rfl rfl (by first | decide | omega) rfl ?_
    refine ex_go (S := (19, [(2, gx_w w1), (0, gx_r 1), (1, .inl 2)], [.inl 2, .inl (wd_g w1)], t0, n, 0)) rfl (fun _ => rfl) rfl ?_
    by_cases hc5 : wd_g w1 = 2
    · refine gx_2t (c := .eq) rfl (by first | decide | omega) (by first | decide | omega) hc5 rfl ?_
      refine ex_go (S := (30, [(2, gx_w w1), (0, gx_r 1), (1, .inl 2)], [gx_r 1], t0, n, 0)) rfl (fun _ => rfl) rfl ?_
      obtain ⟨_, r106, t106, a106, f106, rfl, s106, e106, q106⟩ := pc_goOn (d) n (s0) hT (by first | decide | omega) 
      have b106 := s106.2.2.2
      refine gx_callo (a := 1) rfl rfl s0.1 rfl rfl rfl r106 rfl ?_
      have k7 : ai_hv t106 6 a = some (gx_w w1) := (e106 6 a (by first | decide | omega)).trans kw1
      show en_ex _ _ _ _ (33, [(2, gx_w w1), (0, gx_r 1), (1, .inl 2)], [], t106, n, 0) _
      refine ex_go (S := (34, [(2, gx_w w1), (0, gx_r 1), (1, .inl 2)], [gx_w w1], t106, n, 0)) rfl (fun _ => rfl) rfl ?_
      refine gx_wrnk rfl rfl (by first | decide | omega) rfl ?_
      refine ex_ret (r := (some (.inl (wd_r w1)), t106, n, 0)) rfl (fun _ => rfl) ?_
      have hrr := wd_rle (w := w1) (by first | decide | omega)
      have hlt : a < N := yw1.1
      have hwd : sp_wd S m N a (31 + wd_r w1) := by rw [show 31 + wd_r w1 = w1 by omega]; exact yw1
      refine ⟨_, rfl, wd_r w1, t106, a106, f106, rfl, s106, (fun c i h => e106 c i (by first | decide | omega)), ?_, by omega, fun _ => ⟨by omega, hwd⟩⟩
      by_cases h0 : f = 0
      · rw [h0, fo_yes (v := wd_r w1) (by first | decide | omega) hwd]; exact Prod.ext (by show a106 = a + 1; omega) (by show f106 = 0; omega)
      · rw [fo_no h0]; exact Prod.ext (by show a106 = a; omega) (by show f106 = f; omega)
    · refine gx_2f (c := .eq) rfl (by first | decide | omega) (by first | decide | omega) hc5 rfl ?_
      refine ex_go (S := (23, [(2, gx_w w1), (0, gx_r 1), (1, .inl 2)], [gx_r 1], t0, n, 0)) rfl (fun _ => rfl) rfl ?_
      refine ex_go (S := (24, [(2, gx_w w1), (0, gx_r 1), (1, .inl 2)], [.inl 1, gx_r 1], t0, n, 0)) rfl (fun _ => rfl) rfl ?_
      obtain ⟨_, r108, t108, a108, f108, rfl, s108, e108, q108⟩ := pc_wrong (d) n (s0) hT (by first | decide | omega) (w := 1) (by first | decide | omega)
      have b108 := s108.2.2.2
      refine gx_callo (a := 1) rfl rfl s0.1 rfl rfl rfl r108 rfl ?_
      have k9 : ai_hv t108 6 a = some (gx_w w1) := (e108 6 a (by first | decide | omega)).trans kw1
      show en_ex _ _ _ _ (27, [(2, gx_w w1), (0, gx_r 1), (1, .inl 2)], [], t108, n, 0) _
      refine ex_go (S := (28, [(2, gx_w w1), (0, gx_r 1), (1, .inl 2)], [.inl 0], t108, n, 0)) rfl (fun _ => rfl) rfl ?_
      refine ex_ret (r := (some (.inl 0), t108, n, 0)) rfl (fun _ => rfl) ?_
      have hno : ∀ j, j < 4 → ¬ sp_wd S m N a (31 + j) := fun j hj z => by
        have := sp_wd_one (by first | decide | omega) (by first | decide | omega) yw1 z
        omega
      refine ⟨_, rfl, 0, t108, a108, f108, rfl, s108, (fun c i h => e108 c i (by first | decide | omega)), ?_, by omega, fun z => by omega⟩
      by_cases h0 : f = 0
      · rw [h0, fo_not hno]; exact Prod.ext (by show a108 = a; omega) (by show f108 = 1 + 16 * sp_st S m a; omega)
      · rw [fo_no h0]; exact Prod.ext (by show a108 = a; omega) (by show f108 = f; omega)
theorem pc_seeName (d n : Nat) {t0 : en_H} {a f : Nat} {S : Nat → Nat} {m N : Nat} (s0 : cS t0 a f) (hT : cT t0 S m N) (ha : a ≤ N) : ∃ r, en_u (d + 2) 268 [gx_r 1] t0 n = some r ∧ ∃ v t' a' f', r = (some (.inr (.inl v)), t', n, 0) ∧ cS t' a' f' ∧ cF t0 t' ∧ (a' = a ∧ (f ≠ 0 → f' = f) ∧ (f = 0 → (sp_nm S m N a ∧ f' = 0 ∧ v = sp_wv S m a ∧ a < N) ∨ (¬ sp_nm S m N a ∧ f' = 1 + 16 * sp_st S m a))) := by
  have b0 := s0.2.2.2
  have hN := hT.2.2.2.2.2.2.1
  refine en_u_ex (d := d + 1) rfl ?_
  show en_ex _ _ _ _ (0, [(0, gx_r 1)], [], t0, n, 0) _
  refine ex_go (S := (1, [(0, gx_r 1)], [gx_r 1], t0, n, 0)) rfl (fun _ => rfl) rfl ?_
  refine gxo_ref (a := 1) (c := 6) rfl s0.1 rfl rfl rfl rfl rfl ?_
  refine ex_go (S := (5, [(0, gx_r 1)], [gx_r 1, gx_r 6], t0, n, 0)) rfl (fun _ => rfl) rfl ?_
  refine gxo_get (a := 1) rfl s0.1 rfl rfl s0.2.1 rfl ?_
  obtain ⟨_, kw1, hww1⟩ := cT_wd hT (a := a) (by first | decide | omega)
  rcases hww1 with ⟨rfl, nw1⟩ | ⟨w1, bw1, rfl, yw1⟩
  · refine gx_ag (v := .inr (.inr (.inl none))) (cb := fun c => Nat.ble 4 c && Nat.ble c 7) rfl (fun _ => rfl) s0.1 rfl rfl kw1 (by first | decide | omega) rfl ?_
    refine ex_go (S := (10, [(1, .inr (.inr (.inl none))), (0, gx_r 1)], [], t0, n, 0)) rfl (fun _ => rfl) rfl ?_
    refine ex_go (S := (11, [(1, .inr (.inr (.inl none))), (0, gx_r 1)], [gx_r 1], t0, n, 0)) rfl (fun _ => rfl) rfl ?_
    refine gxo_ref (a := 1) (c := 3) rfl s0.1 rfl rfl rfl rfl rfl ?_
    refine ex_go (S := (15, [(1, .inr (.inr (.inl none))), (0, gx_r 1)], [gx_r 1, gx_r 3], t0, n, 0)) rfl (fun _ => rfl) rfl ?_
    refine gxo_get (a := 1) rfl s0.1 rfl rfl s0.2.1 rfl ?_
    obtain ⟨y2, ky2, hy2⟩ := cT_ty hT (a := a) (by first | decide | omega)
    refine gx_ag (v := .inl y2) (cb := fun c => Nat.beq c 0) rfl (fun _ => rfl) s0.1 rfl rfl ky2 (by first | decide | omega) rfl ?_
    refine ex_go (S := (20, [(1, .inr (.inr (.inl none))), (0, gx_r 1)], [.inl 2, .inl y2], t0, n, 0)) rfl (fun _ => rfl) rfl ?_
    by_cases hc3 : y2 ≠ 2
    · refine gx_2t (c := .ne) rfl (by first | decide | omega) (by first | decide | omega) hc3 rfl ?_
      refine ex_go (S := (36, [(1, .inr (.inr (.inl none))), (0, gx_r 1)], [gx_r 1], t0, n, 0)) rfl (fun _ => rfl) rfl ?_
      refine ex_go (S := (37, [(1, .inr (.inr (.inl none))), (0, gx_r 1)], [.inl 1, gx_r 1], t0, n, 0)) rfl (fun _ => rfl) rfl ?_
      obtain ⟨_, r104, t104, a104, f104, rfl, s104, e104, q104⟩ := pc_wrong (d) n (s0) hT (by first | decide | omega) (w := 1) (by first | decide | omega)
      have b104 := s104.2.2.2
      refine gx_callo (a := 1) rfl rfl s0.1 rfl rfl rfl r104 rfl ?_
      have k5 : ai_hv t104 6 a = some (.inr (.inr (.inl none))) := (e104 6 a (by first | decide | omega)).trans kw1
      have k6 : ai_hv t104 3 a = some (.inl y2) := (e104 3 a (by first | decide | omega)).trans ky2
      show en_ex _ _ _ _ (40, [(1, .inr (.inr (.inl none))), (0, gx_r 1)], [], t104, n, 0) _
      refine ex_go (S := (41, [(1, .inr (.inr (.inl none))), (0, gx_r 1)], [.inr (.inl 0)], t104, n, 0)) rfl (fun _ => rfl) rfl ?_
      refine ex_ret (r := (some (.inr (.inl 0)), t104, n, 0)) rfl (fun _ => rfl) ?_
      have hnm : ¬ sp_nm S m N a := fun z => by have := z.1; omega
      exact ⟨_, rfl, 0, t104, a104, f104, rfl, s104, (fun c i h => e104 c i (by first | decide | omega)), by omega, by omega, fun h0 => Or.inr ⟨hnm, by omega⟩⟩
    · refine gx_2f (c := .ne) rfl (by first | decide | omega) (by first | decide | omega) hc3 rfl ?_
      refine ex_go (S := (24, [(1, .inr (.inr (.inl none))), (0, gx_r 1)], [.inr (.inr (.inl none))], t0, n, 0)) rfl (fun _ => rfl) rfl ?_
      refine ex_go (S := (42, [(1, .inr (.inr (.inl none))), (0, gx_r 1)], [], t0, n, 0)) rfl (fun _ => rfl) rfl ?_
      refine ex_go (S := (43, [(1, .inr (.inr (.inl none))), (0, gx_r 1)], [gx_r 1], t0, n, 0)) rfl (fun _ => rfl) rfl ?_
      refine gxo_ref (a := 1) (c := 5) rfl s0.1 rfl rfl rfl rfl rfl ?_
      refine ex_go (S := (47, [(1, .inr (.inr (.inl none))), (0, gx_r 1)], [gx_r 1, gx_r 5], t0, n, 0)) rfl (fun _ => rfl) rfl ?_
      refine gxo_get (a := 1) rfl s0.1 rfl rfl s0.2.1 rfl ?_
      obtain ⟨k7, hwv⟩ := cT_wv hT (a := a) (by first | decide | omega)
      refine gx_ag (v := .inr (.inl (sp_wv S m a))) (cb := fun c => Nat.beq c 3) rfl (fun _ => rfl) s0.1 rfl rfl k7 (by first | decide | omega) rfl ?_
      refine ex_ret (r := (some (.inr (.inl (sp_wv S m a))), t0, n, 0)) rfl (fun _ => rfl) ?_
      have hnm : sp_nm S m N a := ⟨by omega, fun j hj z => nw1 j (by first | decide | omega) z⟩
      exact ⟨_, rfl, sp_wv S m a, t0, a, f, rfl, s0, (fun _ _ _ => rfl), rfl, fun _ => rfl, fun h0 => Or.inl ⟨hnm, h0, rfl, by omega⟩⟩
  · refine gx_ag (v := gx_w w1) (cb := fun c => Nat.ble 4 c && Nat.ble c 7) rfl (fun _ => rfl) s0.1 rfl rfl kw1 (by first | decide | omega) rfl ?_
    refine ex_go (S := (10, [(1, gx_w w1), (0, gx_r 1)], [], t0, n, 0)) rfl (fun _ => rfl) rfl ?_
    refine ex_go (S := (11, [(1, gx_w w1), (0, gx_r 1)], [gx_r 1], t0, n, 0)) rfl (fun _ => rfl) rfl ?_
    refine gxo_ref (a := 1) (c := 3) rfl s0.1 rfl rfl rfl rfl rfl ?_
    refine ex_go (S := (15, [(1, gx_w w1), (0, gx_r 1)], [gx_r 1, gx_r 3], t0, n, 0)) rfl (fun _ => rfl) rfl ?_
    refine gxo_get (a := 1) rfl s0.1 rfl rfl s0.2.1 rfl ?_
    obtain ⟨y8, ky8, hy8⟩ := cT_ty hT (a := a) (by first | decide | omega)
    refine gx_ag (v := .inl y8) (cb := fun c => Nat.beq c 0) rfl (fun _ => rfl) s0.1 rfl rfl ky8 (by first | decide | omega) rfl ?_
    refine ex_go (S := (20, [(1, gx_w w1), (0, gx_r 1)], [.inl 2, .inl y8], t0, n, 0)) rfl (fun _ => rfl) rfl ?_
    by_cases hc9 : y8 ≠ 2
    · refine gx_2t (c := .ne) rfl (by first | decide | omega) (by first | decide | omega) hc9 rfl ?_
      refine ex_go (S := (36, [(1, gx_w w1), (0, gx_r 1)], [gx_r 1], t0, n, 0)) rfl (fun _ => rfl) rfl ?_
      refine ex_go (S := (37, [(1, gx_w w1), (0, gx_r 1)], [.inl 1, gx_r 1], t0, n, 0)) rfl (fun _ => rfl) rfl ?_
      obtain ⟨_, r110, t110, a110, f110, rfl, s110, e110, q110⟩ := pc_wrong (d) n (s0) hT (by first | decide | omega) (w := 1) (by first | decide | omega)
      have b110 := s110.2.2.2
      refine gx_callo (a := 1) rfl rfl s0.1 rfl rfl rfl r110 rfl ?_
      have k11 : ai_hv t110 6 a = some (gx_w w1) := (e110 6 a (by first | decide | omega)).trans kw1
      have k12 : ai_hv t110 3 a = some (.inl y8) := (e110 3 a (by first | decide | omega)).trans ky8
      show en_ex _ _ _ _ (40, [(1, gx_w w1), (0, gx_r 1)], [], t110, n, 0) _
      refine ex_go (S := (41, [(1, gx_w w1), (0, gx_r 1)], [.inr (.inl 0)], t110, n, 0)) rfl (fun _ => rfl) rfl ?_
      refine ex_ret (r := (some (.inr (.inl 0)), t110, n, 0)) rfl (fun _ => rfl) ?_
      have hnm : ¬ sp_nm S m N a := fun z => by have := z.1; omega
      exact ⟨_, rfl, 0, t110, a110, f110, rfl, s110, (fun c i h => e110 c i (by first | decide | omega)), by omega, by omega, fun h0 => Or.inr ⟨hnm, by omega⟩⟩
    · refine gx_2f (c := .ne) rfl (by first | decide | omega) (by first | decide | omega) hc9 rfl ?_
      refine ex_go (S := (24, [(1, gx_w w1), (0, gx_r 1)], [gx_w w1], t0, n, 0)) rfl (fun _ => rfl) rfl ?_
      refine ex_go (S := (27, [(1, gx_w w1), (0, gx_r 1)], [], t0, n, 0)) rfl (fun _ => rfl) rfl ?_
      refine ex_go (S := (28, [(1, gx_w w1), (0, gx_r 1)], [gx_w w1], t0, n, 0)) rfl (fun _ => rfl) rfl ?_
      have hg13 := wd_gle (w := w1) (by first | decide | omega)
      refine gx_wgrp rfl rfl (by first | decide | omega) rfl ?_
      refine ex_go (S := (32, [(1, gx_w w1), (0, gx_r 1)], [.inl 3, .inl (wd_g w1)], t0, n, 0)) rfl (fun _ => rfl) rfl ?_
      by_cases hc14 : wd_g w1 = 3
      · refine gx_2t (c := .eq) rfl (by first | decide | omega) (by first | decide | omega) hc14 rfl ?_
        refine ex_go (S := (43, [(1, gx_w w1), (0, gx_r 1)], [gx_r 1], t0, n, 0)) rfl (fun _ => rfl) rfl ?_
        refine gxo_ref (a := 1) (c := 5) rfl s0.1 rfl rfl rfl rfl rfl ?_
        refine ex_go (S := (47, [(1, gx_w w1), (0, gx_r 1)], [gx_r 1, gx_r 5], t0, n, 0)) rfl (fun _ => rfl) rfl ?_
        refine gxo_get (a := 1) rfl s0.1 rfl rfl s0.2.1 rfl ?_
        obtain ⟨k15, hwv⟩ := cT_wv hT (a := a) (by first | decide | omega)
        refine gx_ag (v := .inr (.inl (sp_wv S m a))) (cb := fun c => Nat.beq c 3) rfl (fun _ => rfl) s0.1 rfl rfl k15 (by first | decide | omega) rfl ?_
        refine ex_ret (r := (some (.inr (.inl (sp_wv S m a))), t0, n, 0)) rfl (fun _ => rfl) ?_
        have hnm : sp_nm S m N a := ⟨by omega, fun j hj z => by
          have := sp_wd_one (by first | decide | omega) (by first | decide | omega) yw1 z
          omega⟩
        exact ⟨_, rfl, sp_wv S m a, t0, a, f, rfl, s0, (fun _ _ _ => rfl), rfl, fun _ => rfl, fun h0 => Or.inl ⟨hnm, h0, rfl, by omega⟩⟩
      · refine gx_2f (c := .eq) rfl (by first | decide | omega) (by first | decide | omega) hc14 rfl ?_
        refine ex_go (S := (36, [(1, gx_w w1), (0, gx_r 1)], [gx_r 1], t0, n, 0)) rfl (fun _ => rfl) rfl ?_
        refine ex_go (S := (37, [(1, gx_w w1), (0, gx_r 1)], [.inl 1, gx_r 1], t0, n, 0)) rfl (fun _ => rfl) rfl ?_
        obtain ⟨_, r116, t116, a116, f116, rfl, s116, e116, q116⟩ := pc_wrong (d) n (s0) hT (by first | decide | omega) (w := 1) (by first | decide | omega)
        have b116 := s116.2.2.2
        refine gx_callo (a := 1) rfl rfl s0.1 rfl rfl rfl r116 rfl ?_
        have k17 : ai_hv t116 6 a = some (gx_w w1) := (e116 6 a (by first | decide | omega)).trans kw1
        have k18 : ai_hv t116 3 a = some (.inl y8) := (e116 3 a (by first | decide | omega)).trans ky8
        show en_ex _ _ _ _ (40, [(1, gx_w w1), (0, gx_r 1)], [], t116, n, 0) _
        refine ex_go (S := (41, [(1, gx_w w1), (0, gx_r 1)], [.inr (.inl 0)], t116, n, 0)) rfl (fun _ => rfl) rfl ?_
        refine ex_ret (r := (some (.inr (.inl 0)), t116, n, 0)) rfl (fun _ => rfl) ?_
        have hnm : ¬ sp_nm S m N a := fun z => z.2 w1 (by first | decide | omega) yw1
        exact ⟨_, rfl, 0, t116, a116, f116, rfl, s116, (fun c i h => e116 c i (by first | decide | omega)), by omega, by omega, fun h0 => Or.inr ⟨hnm, by omega⟩⟩
end SPS
