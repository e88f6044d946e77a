section ENX
theorem lm_B {fb1 fb2 fb3 f1 gb1 gb2 g1 fb5 f6 : en_F} {dd lg w n : Nat} {P : en_O → Prop} (hd : dd ≤ 30) (k : ∀ x t2, mI dd lg (dd + 1 - lg) t2 → en_ex none (en_fs (en_fs (en_fs fb5 (en_fs gb2 (en_fs gb1 g1 150 lawPo) 149 lkaPo) 148 coPo) (en_fs fb3 (en_fs fb2 (en_fs fb1 f1 150 lawPo) 149 lkaPo) 148 coPo) 147 bePo) f6 61 wiPo) (en_code 126) (fun _ => false) (36, [(4, .inl (dd + 1 - lg)), (5, .inl x), (3, .inl lg), (0, .inr (.inr (.inl (some 383)))), (1, .inl dd), (2, .inl w)], [], t2, n, 0) P) : ∀ m fi x t, 1 ≤ fi → fi + m = dd + 1 - lg → mI dd lg fi t → en_ex none (en_fs (en_fs (en_fs fb5 (en_fs gb2 (en_fs gb1 g1 150 lawPo) 149 lkaPo) 148 coPo) (en_fs fb3 (en_fs fb2 (en_fs fb1 f1 150 lawPo) 149 lkaPo) 148 coPo) 147 bePo) f6 61 wiPo) (en_code 126) (fun _ => false) (36, [(4, .inl fi), (5, .inl x), (3, .inl lg), (0, .inr (.inr (.inl (some 383)))), (1, .inl dd), (2, .inl w)], [], t, n, 0) P := by
  intro m
  induction m with
  | zero =>
    intro fi x t h1 h2 hI
    have e : fi = dd + 1 - lg := by omega
    subst e
    exact k x t hI
  | succ m ih =>
    intro fi x t h1 h2 hI
    by_cases h0 : lg = 0
    · subst h0
      exact lm_02 (lg := 0) (fi := fi) hd h1 (by omega) hI (fun x2 t2 hI2 => ih (fi + 1) x2 t2 (by omega) (by omega) hI2)
    · exact lm_12 (lg := lg) (fi := fi) hd (by omega) h1 (by omega) hI (fun x2 t2 hI2 => ih (fi + 1) x2 t2 (by omega) (by omega) hI2)
theorem mI_up {dd lg : Nat} {t : en_H} (h : mI dd lg (dd + 1 - lg) t) : mI dd (lg + 1) 1 t := by
  obtain ⟨h1, h2, h3, lk, h4, h5, h6⟩ := h
  exact ⟨h1, h2, h3, lk, h4, h5, fun a b a1 a2 a3 a4 => h6 a b a1 a2 a3 (by omega)⟩
theorem lm_out {fb1 fb2 fb3 f1 gb1 gb2 g1 fb5 f6 : en_F} {dd lg w n x : Nat} {t : en_H} {P : en_O → Prop} (hd : dd ≤ 30) (hl : lg < dd) (k : ∀ y, en_ex none (en_fs (en_fs (en_fs fb5 (en_fs gb2 (en_fs gb1 g1 150 lawPo) 149 lkaPo) 148 coPo) (en_fs fb3 (en_fs fb2 (en_fs fb1 f1 150 lawPo) 149 lkaPo) 148 coPo) 147 bePo) f6 61 wiPo) (en_code 126) (fun _ => false) (28, [(3, .inl (lg + 1)), (4, .inl y), (5, .inl x), (0, .inr (.inr (.inl (some 383)))), (1, .inl dd), (2, .inl w)], [], t, n, 0) P) : en_ex none (en_fs (en_fs (en_fs fb5 (en_fs gb2 (en_fs gb1 g1 150 lawPo) 149 lkaPo) 148 coPo) (en_fs fb3 (en_fs fb2 (en_fs fb1 f1 150 lawPo) 149 lkaPo) 148 coPo) 147 bePo) f6 61 wiPo) (en_code 126) (fun _ => false) (36, [(4, .inl (dd + 1 - lg)), (5, .inl x), (3, .inl lg), (0, .inr (.inr (.inl (some 383)))), (1, .inl dd), (2, .inl w)], [], t, n, 0) P := by
  refine ex_go (S := (38, [(4, .inl (dd + 1 - lg)), (5, .inl x), (3, .inl lg), (0, .inr (.inr (.inl (some 383)))), (1, .inl dd), (2, .inl w)], [.inl (dd + 1 - lg)], t, n, 0)) rfl (fun _ => rfl) rfl ?_
  refine ex_go (S := (39, [(4, .inl (dd + 1 - lg)), (5, .inl x), (3, .inl lg), (0, .inr (.inr (.inl (some 383)))), (1, .inl dd), (2, .inl w)], [.inl lg, .inl (dd + 1 - lg)], t, n, 0)) rfl (fun _ => rfl) rfl ?_
  refine ex_iadd rfl (by omega) rfl ?_
  refine ex_go (S := (41, [(4, .inl (dd + 1 - lg)), (5, .inl x), (3, .inl lg), (0, .inr (.inr (.inl (some 383)))), (1, .inl dd), (2, .inl w)], [.inl dd, .inl ((dd + 1 - lg) + lg)], t, n, 0)) rfl (fun _ => rfl) rfl ?_
  refine ex_cmp2 (r := true) rfl (en_rel_t (by omega) (by omega) (rp_gt_t (by omega))) rfl ?_
  show en_ex _ _ _ _ (93, [(4, .inl (dd + 1 - lg)), (5, .inl x), (3, .inl lg), (0, .inr (.inr (.inl (some 383)))), (1, .inl dd), (2, .inl w)], [], t, n, 0) _
  refine ex_go (S := (96, [(3, .inl (en_wrap (lg + 1))), (4, .inl (dd + 1 - lg)), (5, .inl x), (0, .inr (.inr (.inl (some 383)))), (1, .inl dd), (2, .inl w)], [], t, n, 0)) rfl (fun _ => rfl) rfl ?_
  rw [show en_wrap (lg + 1) = lg + 1 from (by unfold en_wrap; rw [Nat.mod_eq_of_lt (by omega)])]
  refine ex_go (S := (28, [(3, .inl (lg + 1)), (4, .inl (dd + 1 - lg)), (5, .inl x), (0, .inr (.inr (.inl (some 383)))), (1, .inl dd), (2, .inl w)], [], t, n, 0)) rfl (fun _ => rfl) rfl ?_
  exact k _
theorem lm_A {fb1 fb2 fb3 f1 gb1 gb2 g1 fb5 f6 : en_F} {dd w n : Nat} (hd1 : 1 ≤ dd) (hd : dd ≤ 30) (hw : w ≤ 1) : ∀ m lg x y t, 1 ≤ lg → lg + m = dd → mI dd lg 1 t → en_ex none (en_fs (en_fs (en_fs fb5 (en_fs gb2 (en_fs gb1 g1 150 lawPo) 149 lkaPo) 148 coPo) (en_fs fb3 (en_fs fb2 (en_fs fb1 f1 150 lawPo) 149 lkaPo) 148 coPo) 147 bePo) f6 61 wiPo) (en_code 126) (fun _ => false) (28, [(3, .inl lg), (4, .inl y), (5, .inl x), (0, .inr (.inr (.inl (some 383)))), (1, .inl dd), (2, .inl w)], [], t, n, 0) (fun o => ∃ t2 : en_H, o = .inl (some (.inl (lkA dd w)), t2, n, 0)) := by
  intro m
  induction m with
  | zero =>
    intro lg x y t h1 h2 hI
    have e : lg = dd := by omega
    subst e
    obtain ⟨hm, hp, ⟨fc, hf, hfl⟩, lk, hl0, hl1, hlk⟩ := hI
    refine ex_go (S := (29, [(3, .inl lg), (4, .inl y), (5, .inl x), (0, .inr (.inr (.inl (some 383)))), (1, .inl lg), (2, .inl w)], [.inl lg], t, n, 0)) rfl (fun _ => rfl) rfl ?_
    refine ex_go (S := (30, [(3, .inl lg), (4, .inl y), (5, .inl x), (0, .inr (.inr (.inl (some 383)))), (1, .inl lg), (2, .inl w)], [.inl lg, .inl lg], t, n, 0)) rfl (fun _ => rfl) rfl ?_
    refine ex_cmp2 (r := true) rfl (en_rel_t (by omega) (by omega) (rp_ge_t (by omega))) rfl ?_
    show en_ex _ _ _ _ (99, [(3, .inl lg), (4, .inl y), (5, .inl x), (0, .inr (.inr (.inl (some 383)))), (1, .inl lg), (2, .inl w)], [], t, n, 0) _
    by_cases h0 : w = 0
    · refine ex_go (S := (100, [(3, .inl lg), (4, .inl y), (5, .inl x), (0, .inr (.inr (.inl (some 383)))), (1, .inl lg), (2, .inl w)], [.inl w], t, n, 0)) rfl (fun _ => rfl) rfl ?_
      refine ex_cmp1 (r := false) rfl (en_rel_f (by omega) (by omega) (rp_ne_f h0)) rfl ?_
      show en_ex _ _ _ _ (103, [(3, .inl lg), (4, .inl y), (5, .inl x), (0, .inr (.inr (.inl (some 383)))), (1, .inl lg), (2, .inl w)], [], t, n, 0) _
      refine ex_go (S := (104, [(3, .inl lg), (4, .inl y), (5, .inl x), (0, .inr (.inr (.inl (some 383)))), (1, .inl lg), (2, .inl w)], [.inr (.inr (.inl (some 383)))], t, n, 0)) rfl (fun _ => rfl) rfl ?_
      refine ex_getf (q := (10, [.inl 0, .inr (.inr (.inl (some 384))), .inl 0, .inl 0, .inr (.inr (.inl (some 385))), .inr (.inr (.inl (some 386))), .inr (.inr (.inl (some 387))), .inl 0, .inl 0, .inr (.inr (.inl (some 388))), .inr (.inr (.inl (some 389))), .inr (.inr (.inl (some 390))), .inr (.inr (.inl (some 391))), .inl 0, .inr (.inr (.inl (some 392))), .inr (.inr (.inl (some 393))), .inr (.inr (.inl (some 394))), .inr (.inr (.inl (some 395))), .inl 0, .inl 0, .inl 0, .inl 0, .inr (.inr (.inl (some 396))), .inr (.inr (.inl (some 397))), .inr (.inr (.inl (some 398))), .inr (.inr (.inl (some 399))), .inl 0, .inr (.inr (.inl (some 400))), .inr (.inr (.inl (some 401))), .inr (.inr (.inl (some 402))), .inr (.inr (.inl (some 403))), .inr (.inr (.inl (some 404))), .inr (.inr (.inl (some 405))), .inr (.inr (.inl (some 406))), .inr (.inr (.inl (some 407))), .inr (.inr (.inl (some 408))), .inr (.inr (.inl (some 409))), .inr (.inr (.inl (some 410))), .inl 0, .inr (.inr (.inl (some 411))), .inr (.inl 0)])) (v := .inr (.inr (.inl (some 406)))) rfl hm rfl rfl rfl ?_
      refine ex_go (S := (109, [(3, .inl lg), (4, .inl y), (5, .inl x), (0, .inr (.inr (.inl (some 383)))), (1, .inl lg), (2, .inl w)], [.inl 32, .inr (.inr (.inl (some 406)))], t, n, 0)) rfl (fun _ => rfl) rfl ?_
      refine ex_go (S := (110, [(3, .inl lg), (4, .inl y), (5, .inl x), (0, .inr (.inr (.inl (some 383)))), (1, .inl lg), (2, .inl w)], [.inl lg, .inl 32, .inr (.inr (.inl (some 406)))], t, n, 0)) rfl (fun _ => rfl) rfl ?_
      refine ex_iadd rfl (by omega) rfl ?_
      refine ex_aget (q := (0, lk)) (v := .inl (lkG (lg - 1))) (cb := fun c => Nat.beq c 0) rfl (fun _ => rfl) hl0 (en_ag0 (by omega)) (hlk 1 lg (by omega) (by omega) (Nat.le_refl _) (Or.inl (by omega))) rfl ?_
      refine ex_go (S := (130, [(3, .inl lg), (4, .inl y), (5, .inl x), (0, .inr (.inr (.inl (some 383)))), (1, .inl lg), (2, .inl w)], [.inl (lkG (lg - 1))], t, n, 0)) rfl (fun _ => rfl) rfl ?_
      refine ex_ret (r := (some (.inl (lkG (lg - 1))), t, n, 0)) rfl (fun _ => rfl) ?_
      exact ⟨t, by unfold lkA; rw [if_pos h0]⟩
    · by_cases h9 : lg = 1
      · refine ex_go (S := (100, [(3, .inl lg), (4, .inl y), (5, .inl x), (0, .inr (.inr (.inl (some 383)))), (1, .inl lg), (2, .inl w)], [.inl w], t, n, 0)) rfl (fun _ => rfl) rfl ?_
        refine ex_cmp1 (r := true) rfl (en_rel_t (by omega) (by omega) (rp_ne_t h0)) rfl ?_
        show en_ex _ _ _ _ (115, [(3, .inl lg), (4, .inl y), (5, .inl x), (0, .inr (.inr (.inl (some 383)))), (1, .inl lg), (2, .inl w)], [], t, n, 0) _
        refine ex_go (S := (116, [(3, .inl lg), (4, .inl y), (5, .inl x), (0, .inr (.inr (.inl (some 383)))), (1, .inl lg), (2, .inl w)], [.inl lg], t, n, 0)) rfl (fun _ => rfl) rfl ?_
        refine ex_go (S := (117, [(3, .inl lg), (4, .inl y), (5, .inl x), (0, .inr (.inr (.inl (some 383)))), (1, .inl lg), (2, .inl w)], [.inl 1, .inl lg], t, n, 0)) rfl (fun _ => rfl) rfl ?_
        refine ex_cmp2 (r := false) rfl (en_rel_f (by omega) (by omega) (rp_ne_f h9)) rfl ?_
        show en_ex _ _ _ _ (120, [(3, .inl lg), (4, .inl y), (5, .inl x), (0, .inr (.inr (.inl (some 383)))), (1, .inl lg), (2, .inl w)], [], t, n, 0) _
        refine ex_go (S := (121, [(3, .inl lg), (4, .inl y), (5, .inl x), (0, .inr (.inr (.inl (some 383)))), (1, .inl lg), (2, .inl w)], [.inl 4294967295], t, n, 0)) rfl (fun _ => rfl) rfl ?_
        refine ex_go (S := (130, [(3, .inl lg), (4, .inl y), (5, .inl x), (0, .inr (.inr (.inl (some 383)))), (1, .inl lg), (2, .inl w)], [.inl 4294967295], t, n, 0)) rfl (fun _ => rfl) rfl ?_
        refine ex_ret (r := (some (.inl 4294967295), t, n, 0)) rfl (fun _ => rfl) ?_
        exact ⟨t, by unfold lkA; rw [if_neg h0, if_pos h9]⟩
      · refine ex_go (S := (100, [(3, .inl lg), (4, .inl y), (5, .inl x), (0, .inr (.inr (.inl (some 383)))), (1, .inl lg), (2, .inl w)], [.inl w], t, n, 0)) rfl (fun _ => rfl) rfl ?_
        refine ex_cmp1 (r := true) rfl (en_rel_t (by omega) (by omega) (rp_ne_t h0)) rfl ?_
        show en_ex _ _ _ _ (115, [(3, .inl lg), (4, .inl y), (5, .inl x), (0, .inr (.inr (.inl (some 383)))), (1, .inl lg), (2, .inl w)], [], t, n, 0) _
        refine ex_go (S := (116, [(3, .inl lg), (4, .inl y), (5, .inl x), (0, .inr (.inr (.inl (some 383)))), (1, .inl lg), (2, .inl w)], [.inl lg], t, n, 0)) rfl (fun _ => rfl) rfl ?_
        refine ex_go (S := (117, [(3, .inl lg), (4, .inl y), (5, .inl x), (0, .inr (.inr (.inl (some 383)))), (1, .inl lg), (2, .inl w)], [.inl 1, .inl lg], t, n, 0)) rfl (fun _ => rfl) rfl ?_
        refine ex_cmp2 (r := true) rfl (en_rel_t (by omega) (by omega) (rp_ne_t h9)) rfl ?_
        show en_ex _ _ _ _ (124, [(3, .inl lg), (4, .inl y), (5, .inl x), (0, .inr (.inr (.inl (some 383)))), (1, .inl lg), (2, .inl w)], [], t, n, 0) _
        refine ex_go (S := (125, [(3, .inl lg), (4, .inl y), (5, .inl x), (0, .inr (.inr (.inl (some 383)))), (1, .inl lg), (2, .inl w)], [.inr (.inr (.inl (some 383)))], t, n, 0)) rfl (fun _ => rfl) rfl ?_
        refine ex_go (S := (126, [(3, .inl lg), (4, .inl y), (5, .inl x), (0, .inr (.inr (.inl (some 383)))), (1, .inl lg), (2, .inl w)], [.inl 1, .inr (.inr (.inl (some 383)))], t, n, 0)) rfl (fun _ => rfl) rfl ?_
        refine ex_go (S := (127, [(3, .inl lg), (4, .inl y), (5, .inl x), (0, .inr (.inr (.inl (some 383)))), (1, .inl lg), (2, .inl w)], [.inl lg, .inl 1, .inr (.inr (.inl (some 383)))], t, n, 0)) rfl (fun _ => rfl) rfl ?_
        obtain ⟨fc2, u1, e1, -⟩ := be_call (fb := en_fs fb5 (en_fs gb2 (en_fs gb1 g1 150 lawPo) 149 lkaPo) 148 coPo) (fb1 := fb1) (fb2 := fb2) (fb3 := fb3) (f1 := f1) (fi := 1) (k := lg - 1) (n := n) (by omega) (by omega) (by omega) hm hp hf hfl hl0 (fun a b a1 a2 a3 a4 => hlk a b (by omega) a2 (by omega) (Or.inl (by omega)))
        rw [show 1 + (lg - 1) = lg by omega, show lg - 1 - 1 = lg - 2 by omega] at e1
        refine ex_virt (a := 383) (q := (10, [.inl 0, .inr (.inr (.inl (some 384))), .inl 0, .inl 0, .inr (.inr (.inl (some 385))), .inr (.inr (.inl (some 386))), .inr (.inr (.inl (some 387))), .inl 0, .inl 0, .inr (.inr (.inl (some 388))), .inr (.inr (.inl (some 389))), .inr (.inr (.inl (some 390))), .inr (.inr (.inl (some 391))), .inl 0, .inr (.inr (.inl (some 392))), .inr (.inr (.inl (some 393))), .inr (.inr (.inl (some 394))), .inr (.inr (.inl (some 395))), .inl 0, .inl 0, .inl 0, .inl 0, .inr (.inr (.inl (some 396))), .inr (.inr (.inl (some 397))), .inr (.inr (.inl (some 398))), .inr (.inr (.inl (some 399))), .inl 0, .inr (.inr (.inl (some 400))), .inr (.inr (.inl (some 401))), .inr (.inr (.inl (some 402))), .inr (.inr (.inl (some 403))), .inr (.inr (.inl (some 404))), .inr (.inr (.inl (some 405))), .inr (.inr (.inl (some 406))), .inr (.inr (.inl (some 407))), .inr (.inr (.inl (some 408))), .inr (.inr (.inl (some 409))), .inr (.inr (.inl (some 410))), .inl 0, .inr (.inr (.inl (some 411))), .inr (.inl 0)])) (as := [.inl 1, .inl lg]) (rest := []) rfl rfl hm rfl rfl ((en_fs_ne (by decide)).trans e1) (Nat.le_refl _) rfl ?_
        show en_ex _ _ _ _ (130, [(3, .inl lg), (4, .inl y), (5, .inl x), (0, .inr (.inr (.inl (some 383)))), (1, .inl lg), (2, .inl w)], [.inl (1 + lkB (lg - 1) (lg - 2))], u1, n, 0) _
        refine ex_ret (r := (some (.inl (1 + lkB (lg - 1) (lg - 2))), u1, n, 0)) rfl (fun _ => rfl) ?_
        exact ⟨u1, by unfold lkA; rw [if_neg h0, if_neg h9]⟩
  | succ m ih =>
    intro lg x y t h1 h2 hI
    refine ex_go (S := (29, [(3, .inl lg), (4, .inl y), (5, .inl x), (0, .inr (.inr (.inl (some 383)))), (1, .inl dd), (2, .inl w)], [.inl lg], t, n, 0)) rfl (fun _ => rfl) rfl ?_
    refine ex_go (S := (30, [(3, .inl lg), (4, .inl y), (5, .inl x), (0, .inr (.inr (.inl (some 383)))), (1, .inl dd), (2, .inl w)], [.inl dd, .inl lg], t, n, 0)) rfl (fun _ => rfl) rfl ?_
    refine ex_cmp2 (r := false) rfl (en_rel_f (by omega) (by omega) (rp_ge_f (by omega))) rfl ?_
    show en_ex _ _ _ _ (33, [(3, .inl lg), (4, .inl y), (5, .inl x), (0, .inr (.inr (.inl (some 383)))), (1, .inl dd), (2, .inl w)], [], t, n, 0) _
    refine ex_go (S := (34, [(3, .inl lg), (4, .inl y), (5, .inl x), (0, .inr (.inr (.inl (some 383)))), (1, .inl dd), (2, .inl w)], [.inl 1], t, n, 0)) rfl (fun _ => rfl) rfl ?_
    refine ex_go (S := (36, [(4, .inl 1), (3, .inl lg), (5, .inl x), (0, .inr (.inr (.inl (some 383)))), (1, .inl dd), (2, .inl w)], [], t, n, 0)) rfl (fun _ => rfl) rfl ?_
    refine lm_13 (lg := lg) (fi := 0) hd h1 (by omega) (by omega) hI (fun x2 t2 hI2 => ?_)
    refine lm_B hd (fun x3 t3 hI3 => ?_) (dd + 1 - lg - 2) 2 x2 t2 (by omega) (by omega) hI2
    exact lm_out hd (by omega) (fun y2 => ih (lg + 1) _ _ t3 (by omega) (by omega) (mI_up hI3))
def loPoM : en_post := fun as t n r => ∃ (dd w : Nat) (t2 : en_H), as = [.inr (.inr (.inl (some 383))), .inl dd, .inl w] ∧ r = (some (.inl (lkA dd w)), t2, n, 0)
theorem lo_callM {fb fb1 fb2 fb3 f1 gb1 gb2 g1 fb5 f6 : en_F} {dd w n : Nat} {t : en_H} (hd1 : 1 ≤ dd) (hd : dd ≤ 30) (hw : w ≤ 1) (hm : en_get t 383 = some (.inr (10, [.inl 0, .inr (.inr (.inl (some 384))), .inl 0, .inl 0, .inr (.inr (.inl (some 385))), .inr (.inr (.inl (some 386))), .inr (.inr (.inl (some 387))), .inl 0, .inl 0, .inr (.inr (.inl (some 388))), .inr (.inr (.inl (some 389))), .inr (.inr (.inl (some 390))), .inr (.inr (.inl (some 391))), .inl 0, .inr (.inr (.inl (some 392))), .inr (.inr (.inl (some 393))), .inr (.inr (.inl (some 394))), .inr (.inr (.inl (some 395))), .inl 0, .inl 0, .inl 0, .inl 0, .inr (.inr (.inl (some 396))), .inr (.inr (.inl (some 397))), .inr (.inr (.inl (some 398))), .inr (.inr (.inl (some 399))), .inl 0, .inr (.inr (.inl (some 400))), .inr (.inr (.inl (some 401))), .inr (.inr (.inl (some 402))), .inr (.inr (.inl (some 403))), .inr (.inr (.inl (some 404))), .inr (.inr (.inl (some 405))), .inr (.inr (.inl (some 406))), .inr (.inr (.inl (some 407))), .inr (.inr (.inl (some 408))), .inr (.inr (.inl (some 409))), .inr (.inr (.inl (some 410))), .inl 0, .inr (.inr (.inl (some 411))), .inr (.inl 0)]))) (hp : en_get t 389 = some (.inl (0, [.inl 2, .inl 2, .inl 0, .inl 0, .inl 0, .inl 2, .inl 0, .inl 0, .inl 0, .inl 4294967295, .inl 4294967295, .inl 4294967295] ++ en_rep 64 (.inl 4) ++ en_rep 244 (.inl 0)))) (hf : ∃ fc, en_get t 397 = some (.inl (0, fc)) ∧ en_len fc = 4) (hl : ∃ lk, en_get t 406 = some (.inl (0, lk)) ∧ en_len lk = 1024) : ∃ t2, en_fs fb (en_fs (en_fs (en_fs fb5 (en_fs gb2 (en_fs gb1 g1 150 lawPo) 149 lkaPo) 148 coPo) (en_fs fb3 (en_fs fb2 (en_fs fb1 f1 150 lawPo) 149 lkaPo) 148 coPo) 147 bePo) f6 61 wiPo) 126 loPoM 126 [.inr (.inr (.inl (some 383))), .inl dd, .inl w] t n = some (some (.inl (lkA dd w)), t2, n, 0) := by
  have key : en_ex none (en_fs (en_fs (en_fs fb5 (en_fs gb2 (en_fs gb1 g1 150 lawPo) 149 lkaPo) 148 coPo) (en_fs fb3 (en_fs fb2 (en_fs fb1 f1 150 lawPo) 149 lkaPo) 148 coPo) 147 bePo) f6 61 wiPo) (en_code 126) (fun _ => false) (0, en_args [.inr (.inr (.inl (some 383))), .inl dd, .inl w] 0, [], t, n, 0) (fun o => ∃ r, o = .inl r ∧ loPoM [.inr (.inr (.inl (some 383))), .inl dd, .inl w] t n r) := by
    obtain ⟨fc, hf, hfl⟩ := hf
    obtain ⟨lk, hl0, hl1⟩ := hl
    show en_ex _ _ _ _ (0, [(0, .inr (.inr (.inl (some 383)))), (1, .inl dd), (2, .inl w)], [], t, n, 0) _
    refine ex_go (S := (1, [(0, .inr (.inr (.inl (some 383)))), (1, .inl dd), (2, .inl w)], [.inr (.inr (.inl (some 383)))], t, n, 0)) rfl (fun _ => rfl) rfl ?_
    refine ex_go (S := (2, [(0, .inr (.inr (.inl (some 383)))), (1, .inl dd), (2, .inl w)], [.inl 0, .inr (.inr (.inl (some 383)))], t, n, 0)) rfl (fun _ => rfl) rfl ?_
    refine ex_putf (q := (10, [.inl 0, .inr (.inr (.inl (some 384))), .inl 0, .inl 0, .inr (.inr (.inl (some 385))), .inr (.inr (.inl (some 386))), .inr (.inr (.inl (some 387))), .inl 0, .inl 0, .inr (.inr (.inl (some 388))), .inr (.inr (.inl (some 389))), .inr (.inr (.inl (some 390))), .inr (.inr (.inl (some 391))), .inl 0, .inr (.inr (.inl (some 392))), .inr (.inr (.inl (some 393))), .inr (.inr (.inl (some 394))), .inr (.inr (.inl (some 395))), .inl 0, .inl 0, .inl 0, .inl 0, .inr (.inr (.inl (some 396))), .inr (.inr (.inl (some 397))), .inr (.inr (.inl (some 398))), .inr (.inr (.inl (some 399))), .inl 0, .inr (.inr (.inl (some 400))), .inr (.inr (.inl (some 401))), .inr (.inr (.inl (some 402))), .inr (.inr (.inl (some 403))), .inr (.inr (.inl (some 404))), .inr (.inr (.inl (some 405))), .inr (.inr (.inl (some 406))), .inr (.inr (.inl (some 407))), .inr (.inr (.inl (some 408))), .inr (.inr (.inl (some 409))), .inr (.inr (.inl (some 410))), .inl 0, .inr (.inr (.inl (some 411))), .inr (.inl 0)])) rfl hm rfl rfl (fun t_0 w_t_0 => ?_)
    have ht_383 : en_get t_0 383 = some (.inr (10, [.inl 0, .inr (.inr (.inl (some 384))), .inl 0, .inl 0, .inr (.inr (.inl (some 385))), .inr (.inr (.inl (some 386))), .inr (.inr (.inl (some 387))), .inl 0, .inl 0, .inr (.inr (.inl (some 388))), .inr (.inr (.inl (some 389))), .inr (.inr (.inl (some 390))), .inr (.inr (.inl (some 391))), .inl 0, .inr (.inr (.inl (some 392))), .inr (.inr (.inl (some 393))), .inr (.inr (.inl (some 394))), .inr (.inr (.inl (some 395))), .inl 0, .inl 0, .inl 0, .inl 0, .inr (.inr (.inl (some 396))), .inr (.inr (.inl (some 397))), .inr (.inr (.inl (some 398))), .inr (.inr (.inl (some 399))), .inl 0, .inr (.inr (.inl (some 400))), .inr (.inr (.inl (some 401))), .inr (.inr (.inl (some 402))), .inr (.inr (.inl (some 403))), .inr (.inr (.inl (some 404))), .inr (.inr (.inl (some 405))), .inr (.inr (.inl (some 406))), .inr (.inr (.inl (some 407))), .inr (.inr (.inl (some 408))), .inr (.inr (.inl (some 409))), .inr (.inr (.inl (some 410))), .inl 0, .inr (.inr (.inl (some 411))), .inr (.inl 0)])) := (w_t_0 383).trans (if_pos rfl)
    have ht_389 : en_get t_0 389 = some (.inl (0, [.inl 2, .inl 2, .inl 0, .inl 0, .inl 0, .inl 2, .inl 0, .inl 0, .inl 0, .inl 4294967295, .inl 4294967295, .inl 4294967295] ++ en_rep 64 (.inl 4) ++ en_rep 244 (.inl 0))) := (w_t_0 389).trans ((if_neg (by decide)).trans hp)
    have ht_397 : en_get t_0 397 = some (.inl (0, fc)) := (w_t_0 397).trans ((if_neg (by decide)).trans hf)
    have ht_406 : en_get t_0 406 = some (.inl (0, lk)) := (w_t_0 406).trans ((if_neg (by decide)).trans hl0)
    refine ex_go (S := (6, [(0, .inr (.inr (.inl (some 383)))), (1, .inl dd), (2, .inl w)], [.inl dd], t_0, n, 0)) rfl (fun _ => rfl) rfl ?_
    refine ex_go (S := (7, [(0, .inr (.inr (.inl (some 383)))), (1, .inl dd), (2, .inl w)], [.inl 1, .inl dd], t_0, n, 0)) rfl (fun _ => rfl) rfl ?_
    refine ex_go (S := (9, [(0, .inr (.inr (.inl (some 383)))), (1, .inl dd), (2, .inl w)], [.inl 30, .inl 1, .inl dd], t_0, n, 0)) rfl (fun _ => rfl) rfl ?_
    refine ex_stat (as := [.inl dd, .inl 1, .inl 30]) (rest := []) rfl rfl rfl rfl rfl (wi_call (by omega) (by omega) (by decide)) (Nat.le_refl _) rfl ?_
    show en_ex _ _ _ _ (12, [(0, .inr (.inr (.inl (some 383)))), (1, .inl dd), (2, .inl w)], [.inl 1], t_0, n, 0) _
    refine ex_go (S := (15, [(0, .inr (.inr (.inl (some 383)))), (1, .inl dd), (2, .inl w)], [], t_0, n, 0)) rfl (fun _ => rfl) rfl ?_
    refine ex_go (S := (16, [(0, .inr (.inr (.inl (some 383)))), (1, .inl dd), (2, .inl w)], [.inl w], t_0, n, 0)) rfl (fun _ => rfl) rfl ?_
    refine ex_go (S := (17, [(0, .inr (.inr (.inl (some 383)))), (1, .inl dd), (2, .inl w)], [.inl 0, .inl w], t_0, n, 0)) rfl (fun _ => rfl) rfl ?_
    refine ex_go (S := (18, [(0, .inr (.inr (.inl (some 383)))), (1, .inl dd), (2, .inl w)], [.inl 1, .inl 0, .inl w], t_0, n, 0)) rfl (fun _ => rfl) rfl ?_
    refine ex_stat (as := [.inl w, .inl 0, .inl 1]) (rest := []) rfl rfl rfl rfl rfl (wi_call (by omega) (by omega) (by decide)) (Nat.le_refl _) rfl ?_
    show en_ex _ _ _ _ (21, [(0, .inr (.inr (.inl (some 383)))), (1, .inl dd), (2, .inl w)], [.inl 1], t_0, n, 0) _
    refine ex_go (S := (26, [(0, .inr (.inr (.inl (some 383)))), (1, .inl dd), (2, .inl w)], [], t_0, n, 0)) rfl (fun _ => rfl) rfl ?_
    refine ex_go (S := (27, [(0, .inr (.inr (.inl (some 383)))), (1, .inl dd), (2, .inl w)], [.inl 0], t_0, n, 0)) rfl (fun _ => rfl) rfl ?_
    refine ex_go (S := (28, [(3, .inl 0), (0, .inr (.inr (.inl (some 383)))), (1, .inl dd), (2, .inl w)], [], t_0, n, 0)) rfl (fun _ => rfl) rfl ?_
    refine ex_go (S := (29, [(3, .inl 0), (0, .inr (.inr (.inl (some 383)))), (1, .inl dd), (2, .inl w)], [.inl 0], t_0, n, 0)) rfl (fun _ => rfl) rfl ?_
    refine ex_go (S := (30, [(3, .inl 0), (0, .inr (.inr (.inl (some 383)))), (1, .inl dd), (2, .inl w)], [.inl dd, .inl 0], t_0, n, 0)) rfl (fun _ => rfl) rfl ?_
    refine ex_cmp2 (r := false) rfl (en_rel_f (by omega) (by omega) (rp_ge_f (by omega))) rfl ?_
    show en_ex _ _ _ _ (33, [(3, .inl 0), (0, .inr (.inr (.inl (some 383)))), (1, .inl dd), (2, .inl w)], [], t_0, n, 0) _
    refine ex_go (S := (34, [(3, .inl 0), (0, .inr (.inr (.inl (some 383)))), (1, .inl dd), (2, .inl w)], [.inl 1], t_0, n, 0)) rfl (fun _ => rfl) rfl ?_
    refine ex_go (S := (36, [(4, .inl 1), (3, .inl 0), (0, .inr (.inr (.inl (some 383)))), (1, .inl dd), (2, .inl w)], [], t_0, n, 0)) rfl (fun _ => rfl) rfl ?_
    refine lm_01 (lg := 0) (fi := 0) (x := 0) hd (by omega) (by omega) ⟨ht_383, ht_389, ⟨fc, ht_397, hfl⟩, lk, ht_406, hl1, fun a b a1 a2 a3 a4 => by omega⟩ (fun x2 t2 hI2 => ?_)
    refine lm_B hd (fun x3 t3 hI3 => ?_) (dd + 1 - 0 - 2) 2 x2 t2 (by omega) (by omega) hI2
    refine lm_out hd (by omega) (fun y2 => ?_)
    refine ex_imp (fun o ho => ?_) (lm_A hd1 hd hw (dd - 1) 1 _ _ t3 (by omega) (by omega) (mI_up hI3))
    obtain ⟨t9, q⟩ := ho
    exact ⟨_, q, dd, w, t9, rfl, rfl⟩
  obtain ⟨r, e1, dd9, w9, t2, q1, rfl⟩ := en_fs_at (fb := fb) (as := [.inr (.inr (.inl (some 383))), .inl dd, .inl w]) rfl key
  obtain ⟨e3, e4⟩ : dd = dd9 ∧ w = w9 := by simpa using q1
  subst e3
  subst e4
  exact ⟨t2, e1⟩
end ENX
section ENX2
variable {p : Program} {l : Launch} {e : Env} {s : State} {m : MethodId} {below : List Frame} {meth : Method} {c : Code} {b L : Nat} {xs : Nat → Int32} {ex : Nat → Nat} {cA : Nat → ClassId} {D : va_G}
theorem t0_144 : en_get en_t0 144 = some (.inr (4, [.inl 0, .inl 0, .inl 0, .inr (.inr (.inl (some 145))), .inr (.inr (.inl (some 146))), .inr (.inr (.inl (some 147))), .inr (.inr (.inl (some 179))), .inr (.inr (.inl (some 180))), .inr (.inr (.inl (some 188))), .inr (.inr (.inl (some 189))), .inr (.inr (.inl (some 190)))])) := rfl
theorem t0_146 : en_get en_t0 146 = some (.inl (0, en_rep 31 (.inl 0))) := rfl
theorem t0_147 : en_get en_t0 147 = some (.inl (7, en_refs 148 31)) := rfl
theorem t0_233 : en_get en_t0 233 = some (.inr (0, [.inr (.inr (.inl (some 234))), .inr (.inr (.inl (some 235))), .inl 1])) := rfl
theorem t0_234 : en_get en_t0 234 = some (.inl (0, en_rep 25 (.inl 0))) := rfl
theorem t0_235 : en_get en_t0 235 = some (.inl (0, [.inl 1] ++ en_rep 999 (.inl 0))) := rfl
theorem t0_191 : en_get en_t0 191 = some (.inr (1, [.inl 2, .inl 2, .inl 2, .inr (.inr (.inl (some 192))), .inr (.inr (.inl (some 193))), .inr (.inr (.inl (some 194))), .inr (.inr (.inl (some 200))), .inr (.inr (.inl (some 206))), .inr (.inr (.inl (some 212))), .inr (.inr (.inl (some 218))), .inr (.inr (.inl (some 224))), .inr (.inr (.inl (some 230))), .inr (.inr (.inl (some 233))), .inr (.inr (.inl (some 236))), .inr (.inr (.inl (some 239))), .inr (.inr (.inl (some 240))), .inr (.inl 771)])) := rfl
theorem t0_389 : en_get en_t0 389 = some (.inl (0, [.inl 2, .inl 2, .inl 0, .inl 0, .inl 0, .inl 2, .inl 0, .inl 0, .inl 0, .inl 4294967295, .inl 4294967295, .inl 4294967295] ++ en_rep 64 (.inl 4) ++ en_rep 244 (.inl 0))) := rfl
theorem t0_397 : en_get en_t0 397 = some (.inl (0, [.inl 0, .inl 0, .inl 0, .inl 0])) := rfl
theorem t0_406 : en_get en_t0 406 = some (.inl (0, en_rep 1024 (.inl 0))) := rfl
theorem t0_rows : ∀ a, a ≤ 30 → en_get en_t0 (148 + a) = some (.inl (0, en_rep 31 (.inl 0))) := by
  intro a ha
  match a, ha with
  | 0, _ => rfl
  | 1, _ => rfl
  | 2, _ => rfl
  | 3, _ => rfl
  | 4, _ => rfl
  | 5, _ => rfl
  | 6, _ => rfl
  | 7, _ => rfl
  | 8, _ => rfl
  | 9, _ => rfl
  | 10, _ => rfl
  | 11, _ => rfl
  | 12, _ => rfl
  | 13, _ => rfl
  | 14, _ => rfl
  | 15, _ => rfl
  | 16, _ => rfl
  | 17, _ => rfl
  | 18, _ => rfl
  | 19, _ => rfl
  | 20, _ => rfl
  | 21, _ => rfl
  | 22, _ => rfl
  | 23, _ => rfl
  | 24, _ => rfl
  | 25, _ => rfl
  | 26, _ => rfl
  | 27, _ => rfl
  | 28, _ => rfl
  | 29, _ => rfl
  | 30, _ => rfl
  | k + 31, h => omega
noncomputable def en_f24 : en_F := en_fs (en_fs (en_c 20) (en_fs (en_fs (en_fs (en_c 19) (en_fs (en_c 18) (en_fs (en_c 17) (en_c 16) 150 lawPo) 149 lkaPo) 148 coPo) (en_fs (en_c 18) (en_fs (en_c 17) (en_fs (en_c 16) (en_c 15) 150 lawPo) 149 lkaPo) 148 coPo) 147 bePo) (en_c 18) 61 wiPo) 126 loPoM) (en_fs (en_fs (en_fs (en_c 19) (en_fs (en_fs (en_c 18) (en_fs (en_c 17) (en_c 16) 133 partPo) 132 valPo) (en_c 17) 145 flPo) 144 flsPo) (en_c 18) 146 lcPo) (en_c 18) 60 iswPo) 125 loPoC
theorem en_f24_hf (l : Launch) (ba : Nat) (ex : Nat → Nat) (cA : Nat → ClassId) (D : va_G) : en_hf l ba ex cA D 20 en_f24 := en_fs_hf (en_fs_hf (en_call_hf l ba ex cA D 20) (en_fs_hf (en_fs_hf (en_fs_hf (en_call_hf l ba ex cA D 19) (en_fs_hf (en_call_hf l ba ex cA D 18) (en_fs_hf (en_call_hf l ba ex cA D 17) (en_call_hf l ba ex cA D 16)))) (en_fs_hf (en_call_hf l ba ex cA D 18) (en_fs_hf (en_call_hf l ba ex cA D 17) (en_fs_hf (en_call_hf l ba ex cA D 16) (en_call_hf l ba ex cA D 15))))) (en_call_hf l ba ex cA D 18))) (en_fs_hf (en_fs_hf (en_fs_hf (en_call_hf l ba ex cA D 19) (en_fs_hf (en_fs_hf (en_call_hf l ba ex cA D 18) (en_fs_hf (en_call_hf l ba ex cA D 17) (en_call_hf l ba ex cA D 16))) (en_call_hf l ba ex cA D 17))) (en_call_hf l ba ex cA D 18)) (en_call_hf l ba ex cA D 18))
theorem lkA_eq (dd w : Nat) (hd1 : 1 ≤ dd) (hd : dd ≤ 30) : en_rel .eq (.inl (lkA dd w)) (.inl (lkA dd w)) = some true := by
  unfold lkA
  have h1 := lkG_le (dd - 1)
  have h2 := lkB_lt (dd - 1) (dd - 2)
  split
  · exact en_rel_t (by omega) (by omega) (rp_eq_t rfl)
  · split
    · rfl
    · exact en_rel_t (by omega) (by omega) (rp_eq_t rfl)
theorem en_run_24 {dd w : Nat} (hd1 : 1 ≤ dd) (hd : dd ≤ 30) (hw : w ≤ 1) : en_ex (some [.inr (.inr (.inr (.inr (0, 4294967295)))), .inl dd, .inl w, .inr (.inr (.inr (.inr (0, 4294967295)))), .inr (.inr (.inr (.inr (0, 4294967295)))), .inr (.inr (.inr (.inr (0, 4294967295)))), .inr (.inr (.inr (.inr (0, 4294967295))))]) en_f24 en_lawc (fun pc => Nat.beq pc 1357) (40, en_ls0, [.inl 24], en_t0, 413, 31071) (fun o => en_end (some o) = true) := by
  refine ex_go (S := (1136, [(4, .inl 0), (3, .inr (.inr (.inl (some 412)))), (2, .inr (.inr (.inl (some 383)))), (1, .inr (.inr (.inl (some 0)))), (0, .inr (.inr (.inr (.inl 2))))], [], en_t0, 413, 31071)) rfl (fun _ => rfl) rfl ?_
  refine ex_go (S := (1137, [(4, .inl 0), (3, .inr (.inr (.inl (some 412)))), (2, .inr (.inr (.inl (some 383)))), (1, .inr (.inr (.inl (some 0)))), (0, .inr (.inr (.inr (.inl 2))))], [.inr (.inr (.inl (some 0)))], en_t0, 413, 31071)) rfl (fun _ => rfl) rfl ?_
  refine ex_go (S := (1138, [(4, .inl 0), (3, .inr (.inr (.inl (some 412)))), (2, .inr (.inr (.inl (some 383)))), (1, .inr (.inr (.inl (some 0)))), (0, .inr (.inr (.inr (.inl 2))))], [.inr (.inr (.inr (.inl 2))), .inr (.inr (.inl (some 0)))], en_t0, 413, 31071)) rfl (fun _ => rfl) rfl ?_
  refine ex_go (S := (1140, [(4, .inl 0), (3, .inr (.inr (.inl (some 412)))), (2, .inr (.inr (.inl (some 383)))), (1, .inr (.inr (.inl (some 0)))), (0, .inr (.inr (.inr (.inl 2))))], [.inl 0, .inr (.inr (.inr (.inl 2))), .inr (.inr (.inl (some 0)))], en_t0, 413, 31071)) rfl (fun _ => rfl) rfl ?_
  refine ex_go (S := (1141, [(4, .inl 0), (3, .inr (.inr (.inl (some 412)))), (2, .inr (.inr (.inl (some 383)))), (1, .inr (.inr (.inl (some 0)))), (0, .inr (.inr (.inr (.inl 2))))], [.inl 1, .inl 0, .inr (.inr (.inr (.inl 2))), .inr (.inr (.inl (some 0)))], en_t0, 413, 31071)) rfl (fun _ => rfl) rfl ?_
  refine ex_go (S := (1142, [(4, .inl 0), (3, .inr (.inr (.inl (some 412)))), (2, .inr (.inr (.inl (some 383)))), (1, .inr (.inr (.inl (some 0)))), (0, .inr (.inr (.inr (.inl 2))))], [.inl 1, .inr (.inr (.inr (.inl 2))), .inr (.inr (.inl (some 0)))], en_t0, 413, 31071)) rfl (fun _ => rfl) rfl ?_
  refine ex_go (S := (1143, [(4, .inl 0), (3, .inr (.inr (.inl (some 412)))), (2, .inr (.inr (.inl (some 383)))), (1, .inr (.inr (.inl (some 0)))), (0, .inr (.inr (.inr (.inl 2))))], [.inl dd, .inr (.inr (.inl (some 0)))], en_t0, 413, 31071)) rfl (fun _ => rfl) rfl ?_
  refine ex_go (S := (1144, [(4, .inl 0), (3, .inr (.inr (.inl (some 412)))), (2, .inr (.inr (.inl (some 383)))), (1, .inr (.inr (.inl (some 0)))), (0, .inr (.inr (.inr (.inl 2))))], [.inr (.inr (.inr (.inl 2))), .inl dd, .inr (.inr (.inl (some 0)))], en_t0, 413, 31071)) rfl (fun _ => rfl) rfl ?_
  refine ex_go (S := (1146, [(4, .inl 0), (3, .inr (.inr (.inl (some 412)))), (2, .inr (.inr (.inl (some 383)))), (1, .inr (.inr (.inl (some 0)))), (0, .inr (.inr (.inr (.inl 2))))], [.inl 0, .inr (.inr (.inr (.inl 2))), .inl dd, .inr (.inr (.inl (some 0)))], en_t0, 413, 31071)) rfl (fun _ => rfl) rfl ?_
  refine ex_go (S := (1147, [(4, .inl 0), (3, .inr (.inr (.inl (some 412)))), (2, .inr (.inr (.inl (some 383)))), (1, .inr (.inr (.inl (some 0)))), (0, .inr (.inr (.inr (.inl 2))))], [.inl 2, .inl 0, .inr (.inr (.inr (.inl 2))), .inl dd, .inr (.inr (.inl (some 0)))], en_t0, 413, 31071)) rfl (fun _ => rfl) rfl ?_
  refine ex_go (S := (1148, [(4, .inl 0), (3, .inr (.inr (.inl (some 412)))), (2, .inr (.inr (.inl (some 383)))), (1, .inr (.inr (.inl (some 0)))), (0, .inr (.inr (.inr (.inl 2))))], [.inl 2, .inr (.inr (.inr (.inl 2))), .inl dd, .inr (.inr (.inl (some 0)))], en_t0, 413, 31071)) rfl (fun _ => rfl) rfl ?_
  refine ex_go (S := (1149, [(4, .inl 0), (3, .inr (.inr (.inl (some 412)))), (2, .inr (.inr (.inl (some 383)))), (1, .inr (.inr (.inl (some 0)))), (0, .inr (.inr (.inr (.inl 2))))], [.inl w, .inl dd, .inr (.inr (.inl (some 0)))], en_t0, 413, 31071)) rfl (fun _ => rfl) rfl ?_
  obtain ⟨u1, e1, d1⟩ := lo_callC (fb := (en_fs (en_c 20) (en_fs (en_fs (en_fs (en_c 19) (en_fs (en_c 18) (en_fs (en_c 17) (en_c 16) 150 lawPo) 149 lkaPo) 148 coPo) (en_fs (en_c 18) (en_fs (en_c 17) (en_fs (en_c 16) (en_c 15) 150 lawPo) 149 lkaPo) 148 coPo) 147 bePo) (en_c 18) 61 wiPo) 126 loPoM)) (fc := en_c 19) (fd := en_c 18) (fe := en_c 18) (fb1 := en_c 18) (f1 := en_c 17) (f2 := en_c 16) (f3 := en_c 17) (n := 413) hd1 hd hw t0_0 t0_191 ⟨t0_144, t0_147, t0_233, t0_235, _, t0_234, en_len_rep 25 _⟩ ⟨_, t0_146, en_len_rep 31 _⟩ (fun a ha => ⟨_, t0_rows a ha, en_len_rep 31 _⟩)
  refine ex_virt (a := 0) (q := (9, [.inr (.inr (.inl (some 1))), .inr (.inr (.inl (some 7))), .inr (.inr (.inl (some 8))), .inr (.inr (.inl (some 15))), .inr (.inr (.inl (some 22))), .inr (.inr (.inl (some 136))), .inr (.inr (.inl (some 137))), .inr (.inr (.inl (some 138))), .inr (.inr (.inl (some 139))), .inr (.inr (.inl (some 144))), .inr (.inr (.inl (some 191))), .inr (.inr (.inl (some 257))), .inr (.inr (.inl (some 323))), .inr (.inr (.inl (some 329)))])) (as := [.inl dd, .inl w]) (rest := []) rfl rfl t0_0 rfl rfl e1 (Nat.le_refl _) rfl ?_
  show en_ex _ _ _ _ (1152, [(4, .inl 0), (3, .inr (.inr (.inl (some 412)))), (2, .inr (.inr (.inl (some 383)))), (1, .inr (.inr (.inl (some 0)))), (0, .inr (.inr (.inr (.inl 2))))], [.inl (lkA dd w)], u1, 413, 31071 + 0) _
  refine ex_go (S := (1153, [(4, .inl 0), (3, .inr (.inr (.inl (some 412)))), (2, .inr (.inr (.inl (some 383)))), (1, .inr (.inr (.inl (some 0)))), (0, .inr (.inr (.inr (.inl 2))))], [.inr (.inr (.inl (some 383))), .inl (lkA dd w)], u1, 413, 31071 + 0)) rfl (fun _ => rfl) rfl ?_
  refine ex_go (S := (1154, [(4, .inl 0), (3, .inr (.inr (.inl (some 412)))), (2, .inr (.inr (.inl (some 383)))), (1, .inr (.inr (.inl (some 0)))), (0, .inr (.inr (.inr (.inl 2))))], [.inr (.inr (.inr (.inl 2))), .inr (.inr (.inl (some 383))), .inl (lkA dd w)], u1, 413, 31071 + 0)) rfl (fun _ => rfl) rfl ?_
  refine ex_go (S := (1156, [(4, .inl 0), (3, .inr (.inr (.inl (some 412)))), (2, .inr (.inr (.inl (some 383)))), (1, .inr (.inr (.inl (some 0)))), (0, .inr (.inr (.inr (.inl 2))))], [.inl 0, .inr (.inr (.inr (.inl 2))), .inr (.inr (.inl (some 383))), .inl (lkA dd w)], u1, 413, 31071 + 0)) rfl (fun _ => rfl) rfl ?_
  refine ex_go (S := (1157, [(4, .inl 0), (3, .inr (.inr (.inl (some 412)))), (2, .inr (.inr (.inl (some 383)))), (1, .inr (.inr (.inl (some 0)))), (0, .inr (.inr (.inr (.inl 2))))], [.inl 1, .inl 0, .inr (.inr (.inr (.inl 2))), .inr (.inr (.inl (some 383))), .inl (lkA dd w)], u1, 413, 31071 + 0)) rfl (fun _ => rfl) rfl ?_
  refine ex_go (S := (1158, [(4, .inl 0), (3, .inr (.inr (.inl (some 412)))), (2, .inr (.inr (.inl (some 383)))), (1, .inr (.inr (.inl (some 0)))), (0, .inr (.inr (.inr (.inl 2))))], [.inl 1, .inr (.inr (.inr (.inl 2))), .inr (.inr (.inl (some 383))), .inl (lkA dd w)], u1, 413, 31071 + 0)) rfl (fun _ => rfl) rfl ?_
  refine ex_go (S := (1159, [(4, .inl 0), (3, .inr (.inr (.inl (some 412)))), (2, .inr (.inr (.inl (some 383)))), (1, .inr (.inr (.inl (some 0)))), (0, .inr (.inr (.inr (.inl 2))))], [.inl dd, .inr (.inr (.inl (some 383))), .inl (lkA dd w)], u1, 413, 31071 + 0)) rfl (fun _ => rfl) rfl ?_
  refine ex_go (S := (1160, [(4, .inl 0), (3, .inr (.inr (.inl (some 412)))), (2, .inr (.inr (.inl (some 383)))), (1, .inr (.inr (.inl (some 0)))), (0, .inr (.inr (.inr (.inl 2))))], [.inr (.inr (.inr (.inl 2))), .inl dd, .inr (.inr (.inl (some 383))), .inl (lkA dd w)], u1, 413, 31071 + 0)) rfl (fun _ => rfl) rfl ?_
  refine ex_go (S := (1162, [(4, .inl 0), (3, .inr (.inr (.inl (some 412)))), (2, .inr (.inr (.inl (some 383)))), (1, .inr (.inr (.inl (some 0)))), (0, .inr (.inr (.inr (.inl 2))))], [.inl 0, .inr (.inr (.inr (.inl 2))), .inl dd, .inr (.inr (.inl (some 383))), .inl (lkA dd w)], u1, 413, 31071 + 0)) rfl (fun _ => rfl) rfl ?_
  refine ex_go (S := (1163, [(4, .inl 0), (3, .inr (.inr (.inl (some 412)))), (2, .inr (.inr (.inl (some 383)))), (1, .inr (.inr (.inl (some 0)))), (0, .inr (.inr (.inr (.inl 2))))], [.inl 2, .inl 0, .inr (.inr (.inr (.inl 2))), .inl dd, .inr (.inr (.inl (some 383))), .inl (lkA dd w)], u1, 413, 31071 + 0)) rfl (fun _ => rfl) rfl ?_
  refine ex_go (S := (1164, [(4, .inl 0), (3, .inr (.inr (.inl (some 412)))), (2, .inr (.inr (.inl (some 383)))), (1, .inr (.inr (.inl (some 0)))), (0, .inr (.inr (.inr (.inl 2))))], [.inl 2, .inr (.inr (.inr (.inl 2))), .inl dd, .inr (.inr (.inl (some 383))), .inl (lkA dd w)], u1, 413, 31071 + 0)) rfl (fun _ => rfl) rfl ?_
  refine ex_go (S := (1165, [(4, .inl 0), (3, .inr (.inr (.inl (some 412)))), (2, .inr (.inr (.inl (some 383)))), (1, .inr (.inr (.inl (some 0)))), (0, .inr (.inr (.inr (.inl 2))))], [.inl w, .inl dd, .inr (.inr (.inl (some 383))), .inl (lkA dd w)], u1, 413, 31071 + 0)) rfl (fun _ => rfl) rfl ?_
  obtain ⟨u2, e2⟩ := lo_callM (fb := en_c 20) (fb1 := en_c 16) (fb2 := en_c 17) (fb3 := en_c 18) (f1 := en_c 15) (gb1 := en_c 17) (gb2 := en_c 18) (g1 := en_c 16) (fb5 := en_c 19) (f6 := en_c 18) (n := 413) hd1 hd hw ((d1 383 (by omega)).trans t0_383) ((d1 389 (by omega)).trans t0_389) ⟨_, (d1 397 (by omega)).trans t0_397, rfl⟩ ⟨_, (d1 406 (by omega)).trans t0_406, en_len_rep 1024 _⟩
  refine ex_virt (a := 383) (q := (10, [.inl 0, .inr (.inr (.inl (some 384))), .inl 0, .inl 0, .inr (.inr (.inl (some 385))), .inr (.inr (.inl (some 386))), .inr (.inr (.inl (some 387))), .inl 0, .inl 0, .inr (.inr (.inl (some 388))), .inr (.inr (.inl (some 389))), .inr (.inr (.inl (some 390))), .inr (.inr (.inl (some 391))), .inl 0, .inr (.inr (.inl (some 392))), .inr (.inr (.inl (some 393))), .inr (.inr (.inl (some 394))), .inr (.inr (.inl (some 395))), .inl 0, .inl 0, .inl 0, .inl 0, .inr (.inr (.inl (some 396))), .inr (.inr (.inl (some 397))), .inr (.inr (.inl (some 398))), .inr (.inr (.inl (some 399))), .inl 0, .inr (.inr (.inl (some 400))), .inr (.inr (.inl (some 401))), .inr (.inr (.inl (some 402))), .inr (.inr (.inl (some 403))), .inr (.inr (.inl (some 404))), .inr (.inr (.inl (some 405))), .inr (.inr (.inl (some 406))), .inr (.inr (.inl (some 407))), .inr (.inr (.inl (some 408))), .inr (.inr (.inl (some 409))), .inr (.inr (.inl (some 410))), .inl 0, .inr (.inr (.inl (some 411))), .inr (.inl 0)])) (as := [.inl dd, .inl w]) (rest := [.inl (lkA dd w)]) rfl rfl ((d1 383 (by omega)).trans t0_383) rfl rfl ((en_fs_ne (by decide)).trans e2) (Nat.le_refl _) rfl ?_
  show en_ex _ _ _ _ (1168, [(4, .inl 0), (3, .inr (.inr (.inl (some 412)))), (2, .inr (.inr (.inl (some 383)))), (1, .inr (.inr (.inl (some 0)))), (0, .inr (.inr (.inr (.inl 2))))], [.inl (lkA dd w), .inl (lkA dd w)], u2, 413, 31071 + 0 + 0) _
  refine ex_cmp2 (r := true) rfl (lkA_eq dd w hd1 hd) rfl ?_
  show en_ex _ _ _ _ (1350, [(4, .inl 0), (3, .inr (.inr (.inl (some 412)))), (2, .inr (.inr (.inl (some 383)))), (1, .inr (.inr (.inl (some 0)))), (0, .inr (.inr (.inr (.inl 2))))], [], u2, 413, 31071 + 0 + 0) _
  refine ex_go (S := (1353, [(4, .inl 7), (3, .inr (.inr (.inl (some 412)))), (2, .inr (.inr (.inl (some 383)))), (1, .inr (.inr (.inl (some 0)))), (0, .inr (.inr (.inr (.inl 2))))], [], u2, 413, 31071 + 0 + 0)) rfl (fun _ => rfl) rfl ?_
  refine ex_go (S := (23, [(4, .inl 7), (3, .inr (.inr (.inl (some 412)))), (2, .inr (.inr (.inl (some 383)))), (1, .inr (.inr (.inl (some 0)))), (0, .inr (.inr (.inr (.inl 2))))], [], u2, 413, 31071 + 0 + 0)) rfl (fun _ => rfl) rfl ?_
  refine ex_go (S := (25, [(4, .inl 7), (3, .inr (.inr (.inl (some 412)))), (2, .inr (.inr (.inl (some 383)))), (1, .inr (.inr (.inl (some 0)))), (0, .inr (.inr (.inr (.inl 2))))], [.inl 7], u2, 413, 31071 + 0 + 0)) rfl (fun _ => rfl) rfl ?_
  refine ex_go (S := (26, [(4, .inl 7), (3, .inr (.inr (.inl (some 412)))), (2, .inr (.inr (.inl (some 383)))), (1, .inr (.inr (.inl (some 0)))), (0, .inr (.inr (.inr (.inl 2))))], [.inr (.inr (.inr (.inl 2))), .inl 7], u2, 413, 31071 + 0 + 0)) rfl (fun _ => rfl) rfl ?_
  refine ex_go (S := (27, [(4, .inl 7), (3, .inr (.inr (.inl (some 412)))), (2, .inr (.inr (.inl (some 383)))), (1, .inr (.inr (.inl (some 0)))), (0, .inr (.inr (.inr (.inl 2))))], [.inl 7, .inl 7], u2, 413, 31071 + 0 + 0)) rfl (fun _ => rfl) rfl ?_
  refine ex_go (S := (29, [(4, .inl 7), (3, .inr (.inr (.inl (some 412)))), (2, .inr (.inr (.inl (some 383)))), (1, .inr (.inr (.inl (some 0)))), (0, .inr (.inr (.inr (.inl 2))))], [.inl 7, .inl 7, .inl 7], u2, 413, 31071 + 0 + 0)) rfl (fun _ => rfl) rfl ?_
  refine ex_go (S := (30, [(4, .inl 7), (3, .inr (.inr (.inl (some 412)))), (2, .inr (.inr (.inl (some 383)))), (1, .inr (.inr (.inl (some 0)))), (0, .inr (.inr (.inr (.inl 2))))], [.inl 0, .inl 7], u2, 413, 31071 + 0 + 0)) rfl (fun _ => rfl) rfl ?_
  refine ex_go (S := (1356, [(4, .inl 7), (3, .inr (.inr (.inl (some 412)))), (2, .inr (.inr (.inl (some 383)))), (1, .inr (.inr (.inl (some 0)))), (0, .inr (.inr (.inr (.inl 2))))], [], u2, 413, 31071 + 0 + 0)) rfl (fun _ => rfl) rfl ?_
  exact ex_stop (S := (1357, [(4, .inl 7), (3, .inr (.inr (.inl (some 412)))), (2, .inr (.inr (.inl (some 383)))), (1, .inr (.inr (.inl (some 0)))), (0, .inr (.inr (.inr (.inl 2))))], [.inl 1], u2, 413, 31071 + 0 + 0)) rfl (fun _ => rfl) rfl rfl
theorem en_ofn {x : Int32} {y : Nat} (hy : y < 2147483648) (h : x.toInt = (y : Int)) : x = nI y := by
  rw [← Int32.toInt_inj]
  have e := en_nI_toInt y
  rw [Nat.mod_eq_of_lt (by omega)] at e
  omega
theorem en_law_24 (C0 : en_LC p s m meth c b ex cA D 7 xs) : en_LT p l e s m below meth c b ex cA D (40, en_ls0, [.inl 24], en_t0, 413, 31071) := by
  have b1 := en_i32b (xs 1)
  have b2 := en_i32b (xs 2)
  have b3 := en_i32b (xs 3)
  have b4 := en_i32b (xs 4)
  have b5 := en_i32b (xs 5)
  have b6 := en_i32b (xs 6)
  by_cases c1 : (xs 1).toInt + 2147483648 ≤ 2147483648
  · exact en_law_box (B := [(0, 2147483648), (0, 4294967295), (0, 4294967295), (0, 4294967295), (0, 4294967295), (0, 4294967295)]) C0 rfl (en_six ⟨by omega, by omega⟩ ⟨by omega, by omega⟩ ⟨by omega, by omega⟩ ⟨by omega, by omega⟩ ⟨by omega, by omega⟩ ⟨by omega, by omega⟩) (List.all_eq_true.mp en_go_24_0 _ (List.mem_of_getElem? (i := 0) rfl))
  by_cases c2 : 2147483679 ≤ (xs 1).toInt + 2147483648
  · exact en_law_box (B := [(2147483679, 4294967295), (0, 4294967295), (0, 4294967295), (0, 4294967295), (0, 4294967295), (0, 4294967295)]) C0 rfl (en_six ⟨by omega, by omega⟩ ⟨by omega, by omega⟩ ⟨by omega, by omega⟩ ⟨by omega, by omega⟩ ⟨by omega, by omega⟩ ⟨by omega, by omega⟩) (List.all_eq_true.mp en_go_24_0 _ (List.mem_of_getElem? (i := 1) rfl))
  by_cases c3 : (xs 2).toInt + 2147483648 ≤ 2147483647
  · exact en_law_box (B := [(2147483649, 2147483678), (0, 2147483647), (0, 4294967295), (0, 4294967295), (0, 4294967295), (0, 4294967295)]) C0 rfl (en_six ⟨by omega, by omega⟩ ⟨by omega, by omega⟩ ⟨by omega, by omega⟩ ⟨by omega, by omega⟩ ⟨by omega, by omega⟩ ⟨by omega, by omega⟩) (List.all_eq_true.mp en_go_24_0 _ (List.mem_of_getElem? (i := 2) rfl))
  by_cases c4 : 2147483650 ≤ (xs 2).toInt + 2147483648
  · exact en_law_box (B := [(2147483649, 2147483678), (2147483650, 4294967295), (0, 4294967295), (0, 4294967295), (0, 4294967295), (0, 4294967295)]) C0 rfl (en_six ⟨by omega, by omega⟩ ⟨by omega, by omega⟩ ⟨by omega, by omega⟩ ⟨by omega, by omega⟩ ⟨by omega, by omega⟩ ⟨by omega, by omega⟩) (List.all_eq_true.mp en_go_24_0 _ (List.mem_of_getElem? (i := 3) rfl))
  obtain ⟨dd, hdd⟩ : ∃ dd : Nat, (xs 1).toInt = (dd : Int) := ⟨(xs 1).toInt.toNat, by omega⟩
  obtain ⟨w, hw⟩ : ∃ w : Nat, (xs 2).toInt = (w : Int) := ⟨(xs 2).toInt.toNat, by omega⟩
  have v1 : xs 1 = nI dd := en_ofn (by omega) hdd
  have v2 : xs 2 = nI w := en_ofn (by omega) hw
  refine en_law_ex C0 (en_f24_hf l _ ex cA D) (Lv := [.inr (.inr (.inr (.inr (0, 4294967295)))), .inl dd, .inl w, .inr (.inr (.inr (.inr (0, 4294967295)))), .inr (.inr (.inr (.inr (0, 4294967295)))), .inr (.inr (.inr (.inr (0, 4294967295)))), .inr (.inr (.inr (.inr (0, 4294967295))))]) rfl (fun i v hv => ?_) (en_run_24 (by omega) (by omega) (by omega))
  match i, hv with
  | 0, hv => cases hv; exact en_full _
  | 1, hv => cases hv; show Value.int (xs 1) = Value.int (nI dd); rw [v1]
  | 2, hv => cases hv; show Value.int (xs 2) = Value.int (nI w); rw [v2]
  | 3, hv => cases hv; exact en_full _
  | 4, hv => cases hv; exact en_full _
  | 5, hv => cases hv; exact en_full _
  | 6, hv => cases hv; exact en_full _
  | k + 7, hv => cases hv
end ENX2
