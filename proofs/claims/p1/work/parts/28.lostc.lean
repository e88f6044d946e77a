section ENU
def rkB (fl : Nat) (t : en_H) : Prop := en_get t 144 = some (.inr (4, [.inl fl, .inl 0, .inl 0, .inr (.inr (.inl (some 145))), .inr (.inr (.inl (some 146))), .inr (.inr (.inl (some 147))), .inr (.inr (.inl (some 179))), .inr (.inr (.inl (some 180))), .inr (.inr (.inl (some 188))), .inr (.inr (.inl (some 189))), .inr (.inr (.inl (some 190)))])) ∧ en_get t 147 = some (.inl (7, en_refs 148 31)) ∧ en_get t 233 = some (.inr (0, [.inr (.inr (.inl (some 234))), .inr (.inr (.inl (some 235))), .inl 1])) ∧ en_get t 235 = some (.inl (0, [.inl 1] ++ en_rep 999 (.inl 0))) ∧ ∃ sk, en_get t 234 = some (.inl (0, sk)) ∧ en_len sk = 25
def rkP (d : Nat) (t : en_H) : Prop := ∃ pr, en_get t 146 = some (.inl (0, pr)) ∧ en_len pr = 31 ∧ ∀ x, 1 ≤ x → x < d → en_nth pr x = some (.inl 1)
def rkC (dd lg fr : Nat) (t : en_H) : Prop := ∀ a, a ≤ 30 → ∃ La, en_get t (148 + a) = some (.inl (0, La)) ∧ en_len La = 31 ∧ ∀ b, 1 ≤ a → a ≤ b → b ≤ dd → (b - a < lg ∨ (b - a = lg ∧ a < fr)) → en_nth La b = some (.inl (lkG (b - a)))
def rkF (t t2 : en_H) : Prop := ∀ j, (383 ≤ j ∨ j < 144) → en_get t2 j = en_get t j
theorem rkF_rf (t : en_H) : rkF t t := fun _ _ => rfl
theorem rkF_tr {t u v : en_H} (h1 : rkF t u) (h2 : rkF u v) : rkF t v := fun j hj => (h2 j hj).trans (h1 j hj)
theorem fls_1 {fb1 f1 f2 f3 : en_F} {dd fl n : Nat} {P : en_O → Prop} (hd : dd ≤ 30) {t0 : en_H} (k : ∀ t2, rkB fl t2 → rkP (dd + 1) t2 → rkC dd 1 1 t2 → rkF t0 t2 → en_ex none (en_fs (en_fs fb1 (en_fs f1 f2 133 partPo) 132 valPo) f3 145 flPo) (en_code 144) (fun _ => false) (7, [(3, .inl (dd + 1)), (0, .inr (.inr (.inl (some 144)))), (1, .inr (.inr (.inl (some 233)))), (2, .inl dd)], [], t2, n, 0) P) : ∀ m d t, 1 ≤ d → d + m = dd + 1 → rkB fl t → rkP d t → (∀ a, a ≤ 30 → ∃ La, en_get t (148 + a) = some (.inl (0, La)) ∧ en_len La = 31 ∧ (1 ≤ a → a < d → en_nth La a = some (.inl 0))) → rkF t0 t → en_ex none (en_fs (en_fs fb1 (en_fs f1 f2 133 partPo) 132 valPo) f3 145 flPo) (en_code 144) (fun _ => false) (7, [(3, .inl d), (0, .inr (.inr (.inl (some 144)))), (1, .inr (.inr (.inl (some 233)))), (2, .inl dd)], [], t, n, 0) P := by
  intro m
  induction m with
  | zero =>
    intro d t hd1 hdm hB hP hC hF
    have e : d = dd + 1 := by omega
    subst e
    refine k t hB hP (fun a ha => ?_) hF
    obtain ⟨La, q1, q2, q3⟩ := hC a ha
    refine ⟨La, q1, q2, fun b h1 h2 h3 h4 => ?_⟩
    have e : b = a := by omega
    subst e
    rw [q3 h1 (by omega), Nat.sub_self]
    rfl
  | succ m ih =>
    intro d t hd1 hdm hB hP hC hF
    obtain ⟨h1, h2, h3, h4, sk, h5, h6⟩ := hB
    obtain ⟨pr, p1, p2, p3⟩ := hP
    obtain ⟨Ld, c1, c2, c3⟩ := hC d (by omega)
    refine ex_go (S := (8, [(3, .inl d), (0, .inr (.inr (.inl (some 144)))), (1, .inr (.inr (.inl (some 233)))), (2, .inl dd)], [.inl d], t, n, 0)) rfl (fun _ => rfl) rfl ?_
    refine ex_go (S := (9, [(3, .inl d), (0, .inr (.inr (.inl (some 144)))), (1, .inr (.inr (.inl (some 233)))), (2, .inl dd)], [.inl dd, .inl d], t, n, 0)) rfl (fun _ => rfl) rfl ?_
    refine ex_cmp2 (r := false) rfl (en_rel_f (by omega) (by omega) (rp_gt_f (by omega))) rfl ?_
    show en_ex _ _ _ _ (12, [(3, .inl d), (0, .inr (.inr (.inl (some 144)))), (1, .inr (.inr (.inl (some 233)))), (2, .inl dd)], [], t, n, 0) _
    refine ex_go (S := (13, [(3, .inl d), (0, .inr (.inr (.inl (some 144)))), (1, .inr (.inr (.inl (some 233)))), (2, .inl dd)], [.inr (.inr (.inl (some 144)))], t, n, 0)) rfl (fun _ => rfl) rfl ?_
    refine ex_getf (q := (4, [.inl fl, .inl 0, .inl 0, .inr (.inr (.inl (some 145))), .inr (.inr (.inl (some 146))), .inr (.inr (.inl (some 147))), .inr (.inr (.inl (some 179))), .inr (.inr (.inl (some 180))), .inr (.inr (.inl (some 188))), .inr (.inr (.inl (some 189))), .inr (.inr (.inl (some 190)))])) (v := .inr (.inr (.inl (some 146)))) rfl h1 rfl rfl rfl ?_
    refine ex_go (S := (17, [(3, .inl d), (0, .inr (.inr (.inl (some 144)))), (1, .inr (.inr (.inl (some 233)))), (2, .inl dd)], [.inl d, .inr (.inr (.inl (some 146)))], t, n, 0)) rfl (fun _ => rfl) rfl ?_
    refine ex_go (S := (18, [(3, .inl d), (0, .inr (.inr (.inl (some 144)))), (1, .inr (.inr (.inl (some 233)))), (2, .inl dd)], [.inr (.inr (.inl (some 233))), .inl d, .inr (.inr (.inl (some 146)))], t, n, 0)) rfl (fun _ => rfl) rfl ?_
    refine ex_go (S := (20, [(3, .inl d), (0, .inr (.inr (.inl (some 144)))), (1, .inr (.inr (.inl (some 233)))), (2, .inl dd)], [.inl 99, .inr (.inr (.inl (some 233))), .inl d, .inr (.inr (.inl (some 146)))], t, n, 0)) rfl (fun _ => rfl) rfl ?_
    refine ex_go (S := (21, [(3, .inl d), (0, .inr (.inr (.inl (some 144)))), (1, .inr (.inr (.inl (some 233)))), (2, .inl dd)], [.inl 0, .inl 99, .inr (.inr (.inl (some 233))), .inl d, .inr (.inr (.inl (some 146)))], t, n, 0)) rfl (fun _ => rfl) rfl ?_
    refine ex_go (S := (22, [(3, .inl d), (0, .inr (.inr (.inl (some 144)))), (1, .inr (.inr (.inl (some 233)))), (2, .inl dd)], [.inl d, .inl 0, .inl 99, .inr (.inr (.inl (some 233))), .inl d, .inr (.inr (.inl (some 146)))], t, n, 0)) rfl (fun _ => rfl) rfl ?_
    refine ex_go (S := (23, [(3, .inl d), (0, .inr (.inr (.inl (some 144)))), (1, .inr (.inr (.inl (some 233)))), (2, .inl dd)], [.inl 0, .inl d, .inl 0, .inl 99, .inr (.inr (.inl (some 233))), .inl d, .inr (.inr (.inl (some 146)))], t, n, 0)) rfl (fun _ => rfl) rfl ?_
    obtain ⟨u, eu, du⟩ := val_call (fb := fb1) (fp := f1) (fq := f2) (d := d) (n := n) h3 h5 h4 h6
    refine ex_virt (a := 233) (q := (0, [.inr (.inr (.inl (some 234))), .inr (.inr (.inl (some 235))), .inl 1])) (as := [.inl 99, .inl 0, .inl d, .inl 0]) (rest := [.inl d, .inr (.inr (.inl (some 146)))]) rfl rfl h3 rfl rfl ((en_fs_ne (by decide)).trans eu) (Nat.le_refl _) rfl ?_
    have v144 : en_get u 144 = some (.inr (4, [.inl fl, .inl 0, .inl 0, .inr (.inr (.inl (some 145))), .inr (.inr (.inl (some 146))), .inr (.inr (.inl (some 147))), .inr (.inr (.inl (some 179))), .inr (.inr (.inl (some 180))), .inr (.inr (.inl (some 188))), .inr (.inr (.inl (some 189))), .inr (.inr (.inl (some 190)))])) := (du 144).trans ((if_neg (by omega)).trans h1)
    have v147 : en_get u 147 = some (.inl (7, en_refs 148 31)) := (du 147).trans ((if_neg (by omega)).trans h2)
    have v233 : en_get u 233 = some (.inr (0, [.inr (.inr (.inl (some 234))), .inr (.inr (.inl (some 235))), .inl 1])) := (du 233).trans ((if_neg (by omega)).trans h3)
    have v235 : en_get u 235 = some (.inl (0, [.inl 1] ++ en_rep 999 (.inl 0))) := (du 235).trans ((if_neg (by omega)).trans h4)
    have v234 : en_get u 234 = some (.inl (0, en_upd sk 0 (.inl 1))) := (du 234).trans (if_pos rfl)
    have v146 : en_get u 146 = some (.inl (0, pr)) := (du 146).trans ((if_neg (by omega)).trans p1)
    have v148_d : en_get u (148 + d) = some (.inl (0, Ld)) := (du (148 + d)).trans ((if_neg (by omega)).trans c1)
    show en_ex _ _ _ _ (26, [(3, .inl d), (0, .inr (.inr (.inl (some 144)))), (1, .inr (.inr (.inl (some 233)))), (2, .inl dd)], [.inl 1, .inl d, .inr (.inr (.inl (some 146)))], u, n, 0) _
    refine ex_aput (q := (0, pr)) (d := 0) rfl (fun _ => rfl) v146 (en_afi2 (N := 31) (by omega) (by decide) p2) rfl (fun u_0 w_u_0 => ?_)
    have hu_144 : en_get u_0 144 = some (.inr (4, [.inl fl, .inl 0, .inl 0, .inr (.inr (.inl (some 145))), .inr (.inr (.inl (some 146))), .inr (.inr (.inl (some 147))), .inr (.inr (.inl (some 179))), .inr (.inr (.inl (some 180))), .inr (.inr (.inl (some 188))), .inr (.inr (.inl (some 189))), .inr (.inr (.inl (some 190)))])) := (w_u_0 144).trans ((if_neg (by decide)).trans v144)
    have hu_147 : en_get u_0 147 = some (.inl (7, en_refs 148 31)) := (w_u_0 147).trans ((if_neg (by decide)).trans v147)
    have hu_233 : en_get u_0 233 = some (.inr (0, [.inr (.inr (.inl (some 234))), .inr (.inr (.inl (some 235))), .inl 1])) := (w_u_0 233).trans ((if_neg (by decide)).trans v233)
    have hu_235 : en_get u_0 235 = some (.inl (0, [.inl 1] ++ en_rep 999 (.inl 0))) := (w_u_0 235).trans ((if_neg (by decide)).trans v235)
    have hu_234 : en_get u_0 234 = some (.inl (0, en_upd sk 0 (.inl 1))) := (w_u_0 234).trans ((if_neg (by decide)).trans v234)
    have hu_146 : en_get u_0 146 = some (.inl (0, en_upd pr d (.inl 1))) := (w_u_0 146).trans (if_pos rfl)
    have hu_148_d : en_get u_0 (148 + d) = some (.inl (0, Ld)) := (w_u_0 (148 + d)).trans ((if_neg (by omega)).trans v148_d)
    refine ex_go (S := (28, [(3, .inl d), (0, .inr (.inr (.inl (some 144)))), (1, .inr (.inr (.inl (some 233)))), (2, .inl dd)], [.inr (.inr (.inl (some 144)))], u_0, n, 0)) rfl (fun _ => rfl) rfl ?_
    refine ex_getf (q := (4, [.inl fl, .inl 0, .inl 0, .inr (.inr (.inl (some 145))), .inr (.inr (.inl (some 146))), .inr (.inr (.inl (some 147))), .inr (.inr (.inl (some 179))), .inr (.inr (.inl (some 180))), .inr (.inr (.inl (some 188))), .inr (.inr (.inl (some 189))), .inr (.inr (.inl (some 190)))])) (v := .inr (.inr (.inl (some 147)))) rfl hu_144 rfl rfl rfl ?_
    refine ex_go (S := (32, [(3, .inl d), (0, .inr (.inr (.inl (some 144)))), (1, .inr (.inr (.inl (some 233)))), (2, .inl dd)], [.inl d, .inr (.inr (.inl (some 147)))], u_0, n, 0)) rfl (fun _ => rfl) rfl ?_
    refine ex_aget (q := (7, en_refs 148 31)) (v := .inr (.inr (.inl (some (148 + d))))) (cb := fun c => Nat.ble 4 c && Nat.ble c 7) rfl (fun _ => rfl) hu_147 (en_aga (by omega)) (en_nth_refs 31 148 d (by omega)) rfl ?_
    refine ex_go (S := (34, [(3, .inl d), (0, .inr (.inr (.inl (some 144)))), (1, .inr (.inr (.inl (some 233)))), (2, .inl dd)], [.inl d, .inr (.inr (.inl (some (148 + d))))], u_0, n, 0)) rfl (fun _ => rfl) rfl ?_
    refine ex_go (S := (35, [(3, .inl d), (0, .inr (.inr (.inl (some 144)))), (1, .inr (.inr (.inl (some 233)))), (2, .inl dd)], [.inl 0, .inl d, .inr (.inr (.inl (some (148 + d))))], u_0, n, 0)) rfl (fun _ => rfl) rfl ?_
    refine ex_aput (q := (0, Ld)) (d := 0) rfl (fun _ => rfl) hu_148_d (en_afi2 (N := 31) (by omega) (by decide) c2) rfl (fun u_1 w_u_1 => ?_)
    have hu_144 : en_get u_1 144 = some (.inr (4, [.inl fl, .inl 0, .inl 0, .inr (.inr (.inl (some 145))), .inr (.inr (.inl (some 146))), .inr (.inr (.inl (some 147))), .inr (.inr (.inl (some 179))), .inr (.inr (.inl (some 180))), .inr (.inr (.inl (some 188))), .inr (.inr (.inl (some 189))), .inr (.inr (.inl (some 190)))])) := (w_u_1 144).trans ((if_neg (by omega)).trans hu_144)
    have hu_147 : en_get u_1 147 = some (.inl (7, en_refs 148 31)) := (w_u_1 147).trans ((if_neg (by omega)).trans hu_147)
    have hu_233 : en_get u_1 233 = some (.inr (0, [.inr (.inr (.inl (some 234))), .inr (.inr (.inl (some 235))), .inl 1])) := (w_u_1 233).trans ((if_neg (by omega)).trans hu_233)
    have hu_235 : en_get u_1 235 = some (.inl (0, [.inl 1] ++ en_rep 999 (.inl 0))) := (w_u_1 235).trans ((if_neg (by omega)).trans hu_235)
    have hu_234 : en_get u_1 234 = some (.inl (0, en_upd sk 0 (.inl 1))) := (w_u_1 234).trans ((if_neg (by omega)).trans hu_234)
    have hu_146 : en_get u_1 146 = some (.inl (0, en_upd pr d (.inl 1))) := (w_u_1 146).trans ((if_neg (by omega)).trans hu_146)
    have hu_148_d : en_get u_1 (148 + d) = some (.inl (0, en_upd Ld d (.inl 0))) := (w_u_1 (148 + d)).trans (if_pos rfl)
    refine ex_go (S := (39, [(3, .inl (en_wrap (d + 1))), (0, .inr (.inr (.inl (some 144)))), (1, .inr (.inr (.inl (some 233)))), (2, .inl dd)], [], u_1, n, 0)) rfl (fun _ => rfl) rfl ?_
    rw [show en_wrap (d + 1) = d + 1 from (by unfold en_wrap; rw [Nat.mod_eq_of_lt (by omega)])]
    refine ex_go (S := (7, [(3, .inl (d + 1)), (0, .inr (.inr (.inl (some 144)))), (1, .inr (.inr (.inl (some 233)))), (2, .inl dd)], [], u_1, n, 0)) rfl (fun _ => rfl) rfl ?_
    refine ih (d + 1) _ (by omega) (by omega) ⟨hu_144, hu_147, hu_233, hu_235, _, hu_234, (en_len_upd _ _ _).trans h6⟩ ⟨_, hu_146, (en_len_upd _ _ _).trans p2, fun x x1 x2 => ?_⟩ (fun a ha => ?_) (fun j hj => ?_)
    · by_cases e : d = x
      · subst e
        exact en_nth_upd_same _ (by rw [p2]; omega)
      · rw [en_nth_upd_ne _ e]
        exact p3 x x1 (by omega)
    · by_cases e : a = d
      · subst e
        exact ⟨_, hu_148_d, (en_len_upd _ _ _).trans c2, fun _ _ => en_nth_upd_same _ (by rw [c2]; omega)⟩
      · obtain ⟨La, q1, q2, q3⟩ := hC a ha
        refine ⟨La, ?_, q2, fun z1 z2 => q3 z1 (by omega)⟩
        rw [w_u_1, if_neg (by omega), w_u_0, if_neg (by omega), du, if_neg (by omega)]
        exact q1
    · rw [w_u_1, if_neg (by omega), w_u_0, if_neg (by omega), du, if_neg (by omega)]
      exact hF j hj
theorem fls_3 {fb1 f1 f2 f3 : en_F} {dd lg n : Nat} {P : en_O → Prop} (hd : dd ≤ 30) (hl1 : 1 ≤ lg) (hl2 : lg < dd) {t0 : en_H} (k : ∀ fl t2, rkB fl t2 → rkP (dd + 1) t2 → rkC dd (lg + 1) 1 t2 → rkF t0 t2 → (lg + 1 = dd → fl = 1 + lkB lg (lg - 1)) → en_ex none (en_fs (en_fs fb1 (en_fs f1 f2 133 partPo) 132 valPo) f3 145 flPo) (en_code 144) (fun _ => false) (52, [(4, .inl (dd + 1 - lg)), (3, .inl lg), (0, .inr (.inr (.inl (some 144)))), (1, .inr (.inr (.inl (some 233)))), (2, .inl dd)], [], t2, n, 0) P) : ∀ m fr fl t, 1 ≤ fr → fr + m = dd + 1 - lg → rkB fl t → rkP (dd + 1) t → rkC dd lg fr t → rkF t0 t → (fr = 2 → fl = 1 + lkB lg (lg - 1)) → en_ex none (en_fs (en_fs fb1 (en_fs f1 f2 133 partPo) 132 valPo) f3 145 flPo) (en_code 144) (fun _ => false) (52, [(4, .inl fr), (3, .inl lg), (0, .inr (.inr (.inl (some 144)))), (1, .inr (.inr (.inl (some 233)))), (2, .inl dd)], [], t, n, 0) P := by
  intro m
  induction m with
  | zero =>
    intro fr fl t hf1 hfm hB hP hC hF hv
    have e : fr = dd + 1 - lg := by omega
    subst e
    refine k fl t hB hP (fun a ha => ?_) hF (fun z => hv (by omega))
    obtain ⟨La, q1, q2, q3⟩ := hC a ha
    exact ⟨La, q1, q2, fun b h1 h2 h3 h4 => q3 b h1 h2 h3 (by omega)⟩
  | succ m ih =>
    intro fr fl t hf1 hfm hB hP hC hF hv
    obtain ⟨h1, h2, h3, h4, sk, h5, h6⟩ := hB
    obtain ⟨pr, p1, p2, p3⟩ := id hP
    have hb := lkB_lt lg (lg - 1)
    refine ex_go (S := (54, [(4, .inl fr), (3, .inl lg), (0, .inr (.inr (.inl (some 144)))), (1, .inr (.inr (.inl (some 233)))), (2, .inl dd)], [.inl fr], t, n, 0)) rfl (fun _ => rfl) rfl ?_
    refine ex_go (S := (55, [(4, .inl fr), (3, .inl lg), (0, .inr (.inr (.inl (some 144)))), (1, .inr (.inr (.inl (some 233)))), (2, .inl dd)], [.inl lg, .inl fr], t, n, 0)) rfl (fun _ => rfl) rfl ?_
    refine ex_iadd rfl (by omega) rfl ?_
    refine ex_go (S := (57, [(4, .inl fr), (3, .inl lg), (0, .inr (.inr (.inl (some 144)))), (1, .inr (.inr (.inl (some 233)))), (2, .inl dd)], [.inl dd, .inl (fr + lg)], t, n, 0)) rfl (fun _ => rfl) rfl ?_
    refine ex_cmp2 (r := false) rfl (en_rel_f (by omega) (by omega) (rp_gt_f (by omega))) rfl ?_
    show en_ex _ _ _ _ (60, [(4, .inl fr), (3, .inl lg), (0, .inr (.inr (.inl (some 144)))), (1, .inr (.inr (.inl (some 233)))), (2, .inl dd)], [], t, n, 0) _
    refine ex_go (S := (61, [(4, .inl fr), (3, .inl lg), (0, .inr (.inr (.inl (some 144)))), (1, .inr (.inr (.inl (some 233)))), (2, .inl dd)], [.inr (.inr (.inl (some 144)))], t, n, 0)) rfl (fun _ => rfl) rfl ?_
    refine ex_go (S := (62, [(4, .inl fr), (3, .inl lg), (0, .inr (.inr (.inl (some 144)))), (1, .inr (.inr (.inl (some 233)))), (2, .inl dd)], [.inr (.inr (.inl (some 144))), .inr (.inr (.inl (some 144)))], t, n, 0)) rfl (fun _ => rfl) rfl ?_
    refine ex_go (S := (64, [(4, .inl fr), (3, .inl lg), (0, .inr (.inr (.inl (some 144)))), (1, .inr (.inr (.inl (some 233)))), (2, .inl dd)], [.inl fr, .inr (.inr (.inl (some 144))), .inr (.inr (.inl (some 144)))], t, n, 0)) rfl (fun _ => rfl) rfl ?_
    refine ex_go (S := (66, [(4, .inl fr), (3, .inl lg), (0, .inr (.inr (.inl (some 144)))), (1, .inr (.inr (.inl (some 233)))), (2, .inl dd)], [.inl fr, .inl fr, .inr (.inr (.inl (some 144))), .inr (.inr (.inl (some 144)))], t, n, 0)) rfl (fun _ => rfl) rfl ?_
    refine ex_go (S := (67, [(4, .inl fr), (3, .inl lg), (0, .inr (.inr (.inl (some 144)))), (1, .inr (.inr (.inl (some 233)))), (2, .inl dd)], [.inl lg, .inl fr, .inl fr, .inr (.inr (.inl (some 144))), .inr (.inr (.inl (some 144)))], t, n, 0)) rfl (fun _ => rfl) rfl ?_
    refine ex_iadd rfl (by omega) rfl ?_
    obtain ⟨La, u, qa, eu, du⟩ := fl_call (fb := en_fs fb1 (en_fs f1 f2 133 partPo) 132 valPo) (f := f3) (fl := fl) (fr := fr) (k := lg) (n := n) h1 p1 (fun x x1 x2 => p3 x (by omega) (by omega)) h2 (fun a a1 a2 => by
      obtain ⟨La, q1, q2, q3⟩ := hC a (by omega)
      exact ⟨La, q1, q2, fun b b1 b2 b3 => q3 b (by omega) b1 (by omega) (Or.inl b3)⟩) hf1 hl1 (by omega)
    refine ex_virt (a := 144) (q := (4, [.inl fl, .inl 0, .inl 0, .inr (.inr (.inl (some 145))), .inr (.inr (.inl (some 146))), .inr (.inr (.inl (some 147))), .inr (.inr (.inl (some 179))), .inr (.inr (.inl (some 180))), .inr (.inr (.inl (some 188))), .inr (.inr (.inl (some 189))), .inr (.inr (.inl (some 190)))])) (as := [.inl fr, .inl (fr + lg)]) (rest := [.inr (.inr (.inl (some 144)))]) rfl rfl h1 rfl rfl eu (Nat.le_refl _) rfl ?_
    have v144 : en_get u 144 = some (.inr (4, [.inl fl, .inl 0, .inl 0, .inr (.inr (.inl (some 145))), .inr (.inr (.inl (some 146))), .inr (.inr (.inl (some 147))), .inr (.inr (.inl (some 179))), .inr (.inr (.inl (some 180))), .inr (.inr (.inl (some 188))), .inr (.inr (.inl (some 189))), .inr (.inr (.inl (some 190)))])) := (du 144).trans ((if_neg (by omega)).trans h1)
    have v147 : en_get u 147 = some (.inl (7, en_refs 148 31)) := (du 147).trans ((if_neg (by omega)).trans h2)
    have v233 : en_get u 233 = some (.inr (0, [.inr (.inr (.inl (some 234))), .inr (.inr (.inl (some 235))), .inl 1])) := (du 233).trans ((if_neg (by omega)).trans h3)
    have v235 : en_get u 235 = some (.inl (0, [.inl 1] ++ en_rep 999 (.inl 0))) := (du 235).trans ((if_neg (by omega)).trans h4)
    have v234 : en_get u 234 = some (.inl (0, sk)) := (du 234).trans ((if_neg (by omega)).trans h5)
    have v146 : en_get u 146 = some (.inl (0, pr)) := (du 146).trans ((if_neg (by omega)).trans p1)
    show en_ex _ _ _ _ (71, [(4, .inl fr), (3, .inl lg), (0, .inr (.inr (.inl (some 144)))), (1, .inr (.inr (.inl (some 233)))), (2, .inl dd)], [.inl (fr + lkB lg (lg - 1)), .inr (.inr (.inl (some 144)))], u, n, 0) _
    refine ex_putf (q := (4, [.inl fl, .inl 0, .inl 0, .inr (.inr (.inl (some 145))), .inr (.inr (.inl (some 146))), .inr (.inr (.inl (some 147))), .inr (.inr (.inl (some 179))), .inr (.inr (.inl (some 180))), .inr (.inr (.inl (some 188))), .inr (.inr (.inl (some 189))), .inr (.inr (.inl (some 190)))])) rfl v144 rfl rfl (fun u_0 w_u_0 => ?_)
    have hu_144 : en_get u_0 144 = some (.inr (4, [.inl (fr + lkB lg (lg - 1)), .inl 0, .inl 0, .inr (.inr (.inl (some 145))), .inr (.inr (.inl (some 146))), .inr (.inr (.inl (some 147))), .inr (.inr (.inl (some 179))), .inr (.inr (.inl (some 180))), .inr (.inr (.inl (some 188))), .inr (.inr (.inl (some 189))), .inr (.inr (.inl (some 190)))])) := (w_u_0 144).trans (if_pos rfl)
    have hu_147 : en_get u_0 147 = some (.inl (7, en_refs 148 31)) := (w_u_0 147).trans ((if_neg (by decide)).trans v147)
    have hu_233 : en_get u_0 233 = some (.inr (0, [.inr (.inr (.inl (some 234))), .inr (.inr (.inl (some 235))), .inl 1])) := (w_u_0 233).trans ((if_neg (by decide)).trans v233)
    have hu_235 : en_get u_0 235 = some (.inl (0, [.inl 1] ++ en_rep 999 (.inl 0))) := (w_u_0 235).trans ((if_neg (by decide)).trans v235)
    have hu_234 : en_get u_0 234 = some (.inl (0, sk)) := (w_u_0 234).trans ((if_neg (by decide)).trans v234)
    have hu_146 : en_get u_0 146 = some (.inl (0, pr)) := (w_u_0 146).trans ((if_neg (by decide)).trans v146)
    refine ex_go (S := (77, [(4, .inl (en_wrap (fr + 1))), (3, .inl lg), (0, .inr (.inr (.inl (some 144)))), (1, .inr (.inr (.inl (some 233)))), (2, .inl dd)], [], u_0, n, 0)) rfl (fun _ => rfl) rfl ?_
    rw [show en_wrap (fr + 1) = fr + 1 from (by unfold en_wrap; rw [Nat.mod_eq_of_lt (by omega)])]
    refine ex_go (S := (52, [(4, .inl (fr + 1)), (3, .inl lg), (0, .inr (.inr (.inl (some 144)))), (1, .inr (.inr (.inl (some 233)))), (2, .inl dd)], [], u_0, n, 0)) rfl (fun _ => rfl) rfl ?_
    refine ih (fr + 1) _ _ (by omega) (by omega) ⟨hu_144, hu_147, hu_233, hu_235, sk, hu_234, h6⟩ ⟨pr, hu_146, p2, p3⟩ (fun a ha => ?_) (fun j hj => ?_) (fun z => by omega)
    · obtain ⟨L9, q1, q2, q3⟩ := hC a ha
      by_cases e : a = fr
      · subst e
        cases q1.symm.trans qa
        refine ⟨en_upd La (a + lg) (.inl (lkG lg)), ?_, (en_len_upd _ _ _).trans q2, fun b b1 b2 b3 b4 => ?_⟩
        · rw [w_u_0, if_neg (by omega), du, if_pos rfl]
        · by_cases e2 : a + lg = b
          · subst e2
            rw [en_nth_upd_same _ (by rw [q2]; omega), Nat.add_sub_cancel_left]
          · rw [en_nth_upd_ne _ e2]
            exact q3 b b1 b2 b3 (by omega)
      · refine ⟨L9, ?_, q2, fun b b1 b2 b3 b4 => q3 b b1 b2 b3 (by omega)⟩
        rw [w_u_0, if_neg (by omega), du, if_neg (by omega)]
        exact q1
    · rw [w_u_0, if_neg (by omega), du, if_neg (by omega)]
      exact hF j hj
theorem fls_2 {fb1 f1 f2 f3 : en_F} {dd n : Nat} (hd1 : 1 ≤ dd) (hd : dd ≤ 30) {t0 : en_H} : ∀ m lg fl t, 1 ≤ lg → lg + m = dd → rkB fl t → rkP (dd + 1) t → rkC dd lg 1 t → rkF t0 t → (lg = dd → 1 < dd → fl = 1 + lkB (dd - 1) (dd - 2)) → (dd = 1 → fl = 4294967295) → en_ex none (en_fs (en_fs fb1 (en_fs f1 f2 133 partPo) 132 valPo) f3 145 flPo) (en_code 144) (fun _ => false) (44, [(3, .inl lg), (0, .inr (.inr (.inl (some 144)))), (1, .inr (.inr (.inl (some 233)))), (2, .inl dd)], [], t, n, 0) (fun o => ∃ (fl : Nat) (t2 : en_H), o = .inl (none, t2, n, 0) ∧ rkB fl t2 ∧ rkC dd dd 1 t2 ∧ rkF t0 t2 ∧ (1 < dd → fl = 1 + lkB (dd - 1) (dd - 2)) ∧ (dd = 1 → fl = 4294967295)) ∧ ∀ x, en_ex none (en_fs (en_fs fb1 (en_fs f1 f2 133 partPo) 132 valPo) f3 145 flPo) (en_code 144) (fun _ => false) (44, [(3, .inl lg), (4, .inl x), (0, .inr (.inr (.inl (some 144)))), (1, .inr (.inr (.inl (some 233)))), (2, .inl dd)], [], t, n, 0) (fun o => ∃ (fl : Nat) (t2 : en_H), o = .inl (none, t2, n, 0) ∧ rkB fl t2 ∧ rkC dd dd 1 t2 ∧ rkF t0 t2 ∧ (1 < dd → fl = 1 + lkB (dd - 1) (dd - 2)) ∧ (dd = 1 → fl = 4294967295)) := by
  intro m
  induction m with
  | zero =>
    intro lg fl t hl1 hlm hB hP hC hF hv hw
    have e : lg = dd := by omega
    subst e
    refine ⟨?_, fun x => ?_⟩
    · refine ex_go (S := (45, [(3, .inl lg), (0, .inr (.inr (.inl (some 144)))), (1, .inr (.inr (.inl (some 233)))), (2, .inl lg)], [.inl lg], t, n, 0)) rfl (fun _ => rfl) rfl ?_
      refine ex_go (S := (46, [(3, .inl lg), (0, .inr (.inr (.inl (some 144)))), (1, .inr (.inr (.inl (some 233)))), (2, .inl lg)], [.inl lg, .inl lg], t, n, 0)) rfl (fun _ => rfl) rfl ?_
      refine ex_cmp2 (r := true) rfl (en_rel_t (by omega) (by omega) (rp_ge_t (by omega))) rfl ?_
      show en_ex _ _ _ _ (86, [(3, .inl lg), (0, .inr (.inr (.inl (some 144)))), (1, .inr (.inr (.inl (some 233)))), (2, .inl lg)], [], t, n, 0) _
      refine ex_ret (r := (none, t, n, 0)) rfl (fun _ => rfl) ?_
      exact ⟨fl, t, rfl, hB, hC, hF, fun z => hv rfl z, hw⟩
    · refine ex_go (S := (45, [(3, .inl lg), (4, .inl x), (0, .inr (.inr (.inl (some 144)))), (1, .inr (.inr (.inl (some 233)))), (2, .inl lg)], [.inl lg], t, n, 0)) rfl (fun _ => rfl) rfl ?_
      refine ex_go (S := (46, [(3, .inl lg), (4, .inl x), (0, .inr (.inr (.inl (some 144)))), (1, .inr (.inr (.inl (some 233)))), (2, .inl lg)], [.inl lg, .inl lg], t, n, 0)) rfl (fun _ => rfl) rfl ?_
      refine ex_cmp2 (r := true) rfl (en_rel_t (by omega) (by omega) (rp_ge_t (by omega))) rfl ?_
      show en_ex _ _ _ _ (86, [(3, .inl lg), (4, .inl x), (0, .inr (.inr (.inl (some 144)))), (1, .inr (.inr (.inl (some 233)))), (2, .inl lg)], [], t, n, 0) _
      refine ex_ret (r := (none, t, n, 0)) rfl (fun _ => rfl) ?_
      exact ⟨fl, t, rfl, hB, hC, hF, fun z => hv rfl z, hw⟩
  | succ m ih =>
    intro lg fl t hl1 hlm hB hP hC hF hv hw
    have go : en_ex none (en_fs (en_fs fb1 (en_fs f1 f2 133 partPo) 132 valPo) f3 145 flPo) (en_code 144) (fun _ => false) (52, [(4, .inl 1), (3, .inl lg), (0, .inr (.inr (.inl (some 144)))), (1, .inr (.inr (.inl (some 233)))), (2, .inl dd)], [], t, n, 0) (fun o => ∃ (fl : Nat) (t2 : en_H), o = .inl (none, t2, n, 0) ∧ rkB fl t2 ∧ rkC dd dd 1 t2 ∧ rkF t0 t2 ∧ (1 < dd → fl = 1 + lkB (dd - 1) (dd - 2)) ∧ (dd = 1 → fl = 4294967295)) := by
      refine fls_3 hd hl1 (by omega) (fun fl2 t2 B2 P2 C2 F2 v2 => ?_) (dd - lg) 1 fl t (by omega) (by omega) hB hP hC hF (fun z => by omega)
      refine ex_go (S := (54, [(4, .inl (dd + 1 - lg)), (3, .inl lg), (0, .inr (.inr (.inl (some 144)))), (1, .inr (.inr (.inl (some 233)))), (2, .inl dd)], [.inl (dd + 1 - lg)], t2, n, 0)) rfl (fun _ => rfl) rfl ?_
      refine ex_go (S := (55, [(4, .inl (dd + 1 - lg)), (3, .inl lg), (0, .inr (.inr (.inl (some 144)))), (1, .inr (.inr (.inl (some 233)))), (2, .inl dd)], [.inl lg, .inl (dd + 1 - lg)], t2, n, 0)) rfl (fun _ => rfl) rfl ?_
      refine ex_iadd rfl (by omega) rfl ?_
      refine ex_go (S := (57, [(4, .inl (dd + 1 - lg)), (3, .inl lg), (0, .inr (.inr (.inl (some 144)))), (1, .inr (.inr (.inl (some 233)))), (2, .inl dd)], [.inl dd, .inl ((dd + 1 - lg) + lg)], t2, n, 0)) rfl (fun _ => rfl) rfl ?_
      refine ex_cmp2 (r := true) rfl (en_rel_t (by omega) (by omega) (rp_gt_t (by omega))) rfl ?_
      show en_ex _ _ _ _ (80, [(4, .inl (dd + 1 - lg)), (3, .inl lg), (0, .inr (.inr (.inl (some 144)))), (1, .inr (.inr (.inl (some 233)))), (2, .inl dd)], [], t2, n, 0) _
      refine ex_go (S := (83, [(3, .inl (en_wrap (lg + 1))), (4, .inl (dd + 1 - lg)), (0, .inr (.inr (.inl (some 144)))), (1, .inr (.inr (.inl (some 233)))), (2, .inl dd)], [], t2, n, 0)) rfl (fun _ => rfl) rfl ?_
      rw [show en_wrap (lg + 1) = lg + 1 from (by unfold en_wrap; rw [Nat.mod_eq_of_lt (by omega)])]
      refine ex_go (S := (44, [(3, .inl (lg + 1)), (4, .inl (dd + 1 - lg)), (0, .inr (.inr (.inl (some 144)))), (1, .inr (.inr (.inl (some 233)))), (2, .inl dd)], [], t2, n, 0)) rfl (fun _ => rfl) rfl ?_
      exact (ih (lg + 1) fl2 t2 (by omega) (by omega) B2 P2 C2 F2 (fun z z2 => by rw [v2 z, show dd - 1 = lg by omega, show dd - 2 = lg - 1 by omega]) (fun z => by omega)).2 _
    refine ⟨?_, fun x => ?_⟩
    · refine ex_go (S := (45, [(3, .inl lg), (0, .inr (.inr (.inl (some 144)))), (1, .inr (.inr (.inl (some 233)))), (2, .inl dd)], [.inl lg], t, n, 0)) rfl (fun _ => rfl) rfl ?_
      refine ex_go (S := (46, [(3, .inl lg), (0, .inr (.inr (.inl (some 144)))), (1, .inr (.inr (.inl (some 233)))), (2, .inl dd)], [.inl dd, .inl lg], t, n, 0)) rfl (fun _ => rfl) rfl ?_
      refine ex_cmp2 (r := false) rfl (en_rel_f (by omega) (by omega) (rp_ge_f (by omega))) rfl ?_
      show en_ex _ _ _ _ (49, [(3, .inl lg), (0, .inr (.inr (.inl (some 144)))), (1, .inr (.inr (.inl (some 233)))), (2, .inl dd)], [], t, n, 0) _
      refine ex_go (S := (50, [(3, .inl lg), (0, .inr (.inr (.inl (some 144)))), (1, .inr (.inr (.inl (some 233)))), (2, .inl dd)], [.inl 1], t, n, 0)) rfl (fun _ => rfl) rfl ?_
      refine ex_go (S := (52, [(4, .inl 1), (3, .inl lg), (0, .inr (.inr (.inl (some 144)))), (1, .inr (.inr (.inl (some 233)))), (2, .inl dd)], [], t, n, 0)) rfl (fun _ => rfl) rfl ?_
      exact go
    · refine ex_go (S := (45, [(3, .inl lg), (4, .inl x), (0, .inr (.inr (.inl (some 144)))), (1, .inr (.inr (.inl (some 233)))), (2, .inl dd)], [.inl lg], t, n, 0)) rfl (fun _ => rfl) rfl ?_
      refine ex_go (S := (46, [(3, .inl lg), (4, .inl x), (0, .inr (.inr (.inl (some 144)))), (1, .inr (.inr (.inl (some 233)))), (2, .inl dd)], [.inl dd, .inl lg], t, n, 0)) rfl (fun _ => rfl) rfl ?_
      refine ex_cmp2 (r := false) rfl (en_rel_f (by omega) (by omega) (rp_ge_f (by omega))) rfl ?_
      show en_ex _ _ _ _ (49, [(3, .inl lg), (4, .inl x), (0, .inr (.inr (.inl (some 144)))), (1, .inr (.inr (.inl (some 233)))), (2, .inl dd)], [], t, n, 0) _
      refine ex_go (S := (50, [(3, .inl lg), (4, .inl x), (0, .inr (.inr (.inl (some 144)))), (1, .inr (.inr (.inl (some 233)))), (2, .inl dd)], [.inl 1], t, n, 0)) rfl (fun _ => rfl) rfl ?_
      refine ex_go (S := (52, [(4, .inl 1), (3, .inl lg), (0, .inr (.inr (.inl (some 144)))), (1, .inr (.inr (.inl (some 233)))), (2, .inl dd)], [], t, n, 0)) rfl (fun _ => rfl) rfl ?_
      exact go
def flsPo : en_post := fun as t n r => ∃ (dd fl : Nat) (t2 : en_H), as = [.inr (.inr (.inl (some 144))), .inr (.inr (.inl (some 233))), .inl dd] ∧ r = (none, t2, n, 0) ∧ rkB fl t2 ∧ rkC dd dd 1 t2 ∧ rkF t t2 ∧ (1 < dd → fl = 1 + lkB (dd - 1) (dd - 2)) ∧ (dd = 1 → fl = 4294967295)
theorem fls_call {fb fb1 f1 f2 f3 : en_F} {dd fl n : Nat} {t : en_H} (hd1 : 1 ≤ dd) (hd : dd ≤ 30) (hB : rkB fl t) (hP : ∃ pr, en_get t 146 = some (.inl (0, pr)) ∧ en_len pr = 31) (hC : ∀ a, a ≤ 30 → ∃ La, en_get t (148 + a) = some (.inl (0, La)) ∧ en_len La = 31) : ∃ (fl2 : Nat) (t2 : en_H), en_fs fb (en_fs (en_fs fb1 (en_fs f1 f2 133 partPo) 132 valPo) f3 145 flPo) 144 flsPo 144 [.inr (.inr (.inl (some 144))), .inr (.inr (.inl (some 233))), .inl dd] t n = some (none, t2, n, 0) ∧ rkB fl2 t2 ∧ rkC dd dd 1 t2 ∧ rkF t t2 ∧ (1 < dd → fl2 = 1 + lkB (dd - 1) (dd - 2)) ∧ (dd = 1 → fl2 = 4294967295) := by
  have key : en_ex none (en_fs (en_fs fb1 (en_fs f1 f2 133 partPo) 132 valPo) f3 145 flPo) (en_code 144) (fun _ => false) (0, en_args [.inr (.inr (.inl (some 144))), .inr (.inr (.inl (some 233))), .inl dd] 0, [], t, n, 0) (fun o => ∃ r, o = .inl r ∧ flsPo [.inr (.inr (.inl (some 144))), .inr (.inr (.inl (some 233))), .inl dd] t n r) := by
    obtain ⟨h1, h2, h3, h4, sk, h5, h6⟩ := hB
    obtain ⟨pr, p1, p2⟩ := hP
    show en_ex _ _ _ _ (0, [(0, .inr (.inr (.inl (some 144)))), (1, .inr (.inr (.inl (some 233)))), (2, .inl dd)], [], t, n, 0) _
    refine ex_go (S := (1, [(0, .inr (.inr (.inl (some 144)))), (1, .inr (.inr (.inl (some 233)))), (2, .inl dd)], [.inr (.inr (.inl (some 144)))], t, n, 0)) rfl (fun _ => rfl) rfl ?_
    refine ex_go (S := (2, [(0, .inr (.inr (.inl (some 144)))), (1, .inr (.inr (.inl (some 233)))), (2, .inl dd)], [.inl 4294967295, .inr (.inr (.inl (some 144)))], t, n, 0)) rfl (fun _ => rfl) rfl ?_
    refine ex_putf (q := (4, [.inl fl, .inl 0, .inl 0, .inr (.inr (.inl (some 145))), .inr (.inr (.inl (some 146))), .inr (.inr (.inl (some 147))), .inr (.inr (.inl (some 179))), .inr (.inr (.inl (some 180))), .inr (.inr (.inl (some 188))), .inr (.inr (.inl (some 189))), .inr (.inr (.inl (some 190)))])) rfl h1 rfl rfl (fun t_0 w_t_0 => ?_)
    have ht_144 : en_get t_0 144 = some (.inr (4, [.inl 4294967295, .inl 0, .inl 0, .inr (.inr (.inl (some 145))), .inr (.inr (.inl (some 146))), .inr (.inr (.inl (some 147))), .inr (.inr (.inl (some 179))), .inr (.inr (.inl (some 180))), .inr (.inr (.inl (some 188))), .inr (.inr (.inl (some 189))), .inr (.inr (.inl (some 190)))])) := (w_t_0 144).trans (if_pos rfl)
    have ht_147 : en_get t_0 147 = some (.inl (7, en_refs 148 31)) := (w_t_0 147).trans ((if_neg (by decide)).trans h2)
    have ht_233 : en_get t_0 233 = some (.inr (0, [.inr (.inr (.inl (some 234))), .inr (.inr (.inl (some 235))), .inl 1])) := (w_t_0 233).trans ((if_neg (by decide)).trans h3)
    have ht_235 : en_get t_0 235 = some (.inl (0, [.inl 1] ++ en_rep 999 (.inl 0))) := (w_t_0 235).trans ((if_neg (by decide)).trans h4)
    have ht_234 : en_get t_0 234 = some (.inl (0, sk)) := (w_t_0 234).trans ((if_neg (by decide)).trans h5)
    have ht_146 : en_get t_0 146 = some (.inl (0, pr)) := (w_t_0 146).trans ((if_neg (by decide)).trans p1)
    refine ex_go (S := (6, [(0, .inr (.inr (.inl (some 144)))), (1, .inr (.inr (.inl (some 233)))), (2, .inl dd)], [.inl 1], t_0, n, 0)) rfl (fun _ => rfl) rfl ?_
    refine ex_go (S := (7, [(3, .inl 1), (0, .inr (.inr (.inl (some 144)))), (1, .inr (.inr (.inl (some 233)))), (2, .inl dd)], [], t_0, n, 0)) rfl (fun _ => rfl) rfl ?_
    refine fls_1 (fl := 4294967295) (t0 := t) hd (fun t2 B2 P2 C2 F2 => ?_) dd 1 _ (by omega) (by omega) ⟨ht_144, ht_147, ht_233, ht_235, sk, ht_234, h6⟩ ⟨pr, ht_146, p2, fun x x1 x2 => by omega⟩ (fun a ha => ?_) (fun j hj => by rw [w_t_0, if_neg (by omega)])
    · refine ex_go (S := (8, [(3, .inl (dd + 1)), (0, .inr (.inr (.inl (some 144)))), (1, .inr (.inr (.inl (some 233)))), (2, .inl dd)], [.inl (dd + 1)], t2, n, 0)) rfl (fun _ => rfl) rfl ?_
      refine ex_go (S := (9, [(3, .inl (dd + 1)), (0, .inr (.inr (.inl (some 144)))), (1, .inr (.inr (.inl (some 233)))), (2, .inl dd)], [.inl dd, .inl (dd + 1)], t2, n, 0)) rfl (fun _ => rfl) rfl ?_
      refine ex_cmp2 (r := true) rfl (en_rel_t (by omega) (by omega) (rp_gt_t (by omega))) rfl ?_
      show en_ex _ _ _ _ (42, [(3, .inl (dd + 1)), (0, .inr (.inr (.inl (some 144)))), (1, .inr (.inr (.inl (some 233)))), (2, .inl dd)], [], t2, n, 0) _
      refine ex_go (S := (43, [(3, .inl (dd + 1)), (0, .inr (.inr (.inl (some 144)))), (1, .inr (.inr (.inl (some 233)))), (2, .inl dd)], [.inl 1], t2, n, 0)) rfl (fun _ => rfl) rfl ?_
      refine ex_go (S := (44, [(3, .inl 1), (0, .inr (.inr (.inl (some 144)))), (1, .inr (.inr (.inl (some 233)))), (2, .inl dd)], [], t2, n, 0)) rfl (fun _ => rfl) rfl ?_
      refine ex_imp (fun o ho => ?_) (fls_2 (t0 := t) hd1 hd (dd - 1) 1 4294967295 t2 (by omega) (by omega) B2 P2 C2 F2 (fun z z2 => by omega) (fun _ => rfl)).1
      obtain ⟨fl2, t3, q1, q2⟩ := ho
      exact ⟨_, q1, dd, fl2, t3, rfl, rfl, q2⟩
    · obtain ⟨La, q1, q2⟩ := hC a ha
      exact ⟨La, by rw [w_t_0, if_neg (by omega)]; exact q1, q2, fun z1 z2 => by omega⟩
  obtain ⟨r, e1, dd9, fl2, t2, q1, rfl, q2⟩ := en_fs_at (fb := fb) (as := [.inr (.inr (.inl (some 144))), .inr (.inr (.inl (some 233))), .inl dd]) rfl key
  have e3 : dd = dd9 := by simpa using q1
  subst e3
  exact ⟨fl2, t2, e1, q2⟩
end ENU
