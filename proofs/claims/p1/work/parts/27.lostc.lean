section ENT
def partPo : en_post := fun as t n r => r = (some (.inl 1), t, n, 0)
theorem part_call {fb fr : en_F} {a b c n : Nat} {t : en_H} : en_fs fb fr 133 partPo 133 [.inl 1, .inl a, .inl b, .inl c] t n = some (some (.inl 1), t, n, 0) := by
  have key : en_ex none fr (en_code 133) (fun _ => false) (0, en_args [.inl 1, .inl a, .inl b, .inl c] 0, [], t, n, 0) (fun o => ∃ r, o = .inl r ∧ partPo [.inl 1, .inl a, .inl b, .inl c] t n r) := by
    show en_ex _ _ _ _ (0, [(0, .inl 1), (1, .inl a), (2, .inl b), (3, .inl c)], [], t, n, 0) _
    refine ex_go (S := (1, [(0, .inl 1), (1, .inl a), (2, .inl b), (3, .inl c)], [.inl 1], t, n, 0)) rfl (fun _ => rfl) rfl ?_
    refine ex_go (S := (34, [(0, .inl 1), (1, .inl a), (2, .inl b), (3, .inl c)], [], t, n, 0)) rfl (fun _ => rfl) rfl ?_
    refine ex_go (S := (35, [(0, .inl 1), (1, .inl a), (2, .inl b), (3, .inl c)], [.inl 1], t, n, 0)) rfl (fun _ => rfl) rfl ?_
    refine ex_ret (r := (some (.inl 1), t, n, 0)) rfl (fun _ => rfl) ?_
    exact ⟨_, rfl, rfl⟩
  obtain ⟨r, e1, rfl⟩ := en_fs_at (fb := fb) (as := [.inl 1, .inl a, .inl b, .inl c]) rfl key
  exact e1
def iswPo : en_post := fun as t n r => r = (some (.inl 1), t, n, 0)
theorem isw_call {fb fr : en_F} {x lo hi n : Nat} {t : en_H} (h1 : lo ≤ x) (h2 : x ≤ hi) (h3 : hi < 2147483648) : en_fs fb fr 60 iswPo 60 [.inl x, .inl lo, .inl hi] t n = some (some (.inl 1), t, n, 0) := by
  have key : en_ex none fr (en_code 60) (fun _ => false) (0, en_args [.inl x, .inl lo, .inl hi] 0, [], t, n, 0) (fun o => ∃ r, o = .inl r ∧ iswPo [.inl x, .inl lo, .inl hi] t n r) := by
    show en_ex _ _ _ _ (0, [(0, .inl x), (1, .inl lo), (2, .inl hi)], [], t, n, 0) _
    refine ex_go (S := (1, [(0, .inl x), (1, .inl lo), (2, .inl hi)], [.inl x], t, n, 0)) rfl (fun _ => rfl) rfl ?_
    refine ex_go (S := (2, [(0, .inl x), (1, .inl lo), (2, .inl hi)], [.inl lo, .inl x], t, n, 0)) rfl (fun _ => rfl) rfl ?_
    refine ex_cmp2 (r := false) rfl (en_rel_f (by omega) (by omega) (rp_lt_f h1)) rfl ?_
    show en_ex _ _ _ _ (5, [(0, .inl x), (1, .inl lo), (2, .inl hi)], [], t, n, 0) _
    refine ex_go (S := (6, [(0, .inl x), (1, .inl lo), (2, .inl hi)], [.inl x], t, n, 0)) rfl (fun _ => rfl) rfl ?_
    refine ex_go (S := (7, [(0, .inl x), (1, .inl lo), (2, .inl hi)], [.inl hi, .inl x], t, n, 0)) rfl (fun _ => rfl) rfl ?_
    refine ex_cmp2 (r := false) rfl (en_rel_f (by omega) (by omega) (rp_gt_f h2)) rfl ?_
    show en_ex _ _ _ _ (10, [(0, .inl x), (1, .inl lo), (2, .inl hi)], [], t, n, 0) _
    refine ex_go (S := (11, [(0, .inl x), (1, .inl lo), (2, .inl hi)], [.inl 1], t, n, 0)) rfl (fun _ => rfl) rfl ?_
    refine ex_go (S := (15, [(0, .inl x), (1, .inl lo), (2, .inl hi)], [.inl 1], t, n, 0)) rfl (fun _ => rfl) rfl ?_
    refine ex_ret (r := (some (.inl 1), t, n, 0)) rfl (fun _ => rfl) ?_
    exact ⟨_, rfl, rfl⟩
  obtain ⟨r, e1, rfl⟩ := en_fs_at (fb := fb) (as := [.inl x, .inl lo, .inl hi]) rfl key
  exact e1
def wiPo : en_post := fun as t n r => r = (some (.inl 1), t, n, 0)
theorem wi_call {fb fr : en_F} {x lo hi n : Nat} {t : en_H} (h1 : lo ≤ x) (h2 : x ≤ hi) (h3 : hi < 2147483648) : en_fs fb fr 61 wiPo 61 [.inl x, .inl lo, .inl hi] t n = some (some (.inl 1), t, n, 0) := by
  have key : en_ex none fr (en_code 61) (fun _ => false) (0, en_args [.inl x, .inl lo, .inl hi] 0, [], t, n, 0) (fun o => ∃ r, o = .inl r ∧ wiPo [.inl x, .inl lo, .inl hi] t n r) := by
    show en_ex _ _ _ _ (0, [(0, .inl x), (1, .inl lo), (2, .inl hi)], [], t, n, 0) _
    refine ex_go (S := (1, [(0, .inl x), (1, .inl lo), (2, .inl hi)], [.inl x], t, n, 0)) rfl (fun _ => rfl) rfl ?_
    refine ex_go (S := (2, [(0, .inl x), (1, .inl lo), (2, .inl hi)], [.inl lo, .inl x], t, n, 0)) rfl (fun _ => rfl) rfl ?_
    refine ex_cmp2 (r := false) rfl (en_rel_f (by omega) (by omega) (rp_lt_f h1)) rfl ?_
    show en_ex _ _ _ _ (5, [(0, .inl x), (1, .inl lo), (2, .inl hi)], [], t, n, 0) _
    refine ex_go (S := (6, [(0, .inl x), (1, .inl lo), (2, .inl hi)], [.inl x], t, n, 0)) rfl (fun _ => rfl) rfl ?_
    refine ex_go (S := (7, [(0, .inl x), (1, .inl lo), (2, .inl hi)], [.inl hi, .inl x], t, n, 0)) rfl (fun _ => rfl) rfl ?_
    refine ex_cmp2 (r := false) rfl (en_rel_f (by omega) (by omega) (rp_gt_f h2)) rfl ?_
    show en_ex _ _ _ _ (10, [(0, .inl x), (1, .inl lo), (2, .inl hi)], [], t, n, 0) _
    refine ex_go (S := (11, [(0, .inl x), (1, .inl lo), (2, .inl hi)], [.inl 1], t, n, 0)) rfl (fun _ => rfl) rfl ?_
    refine ex_go (S := (15, [(0, .inl x), (1, .inl lo), (2, .inl hi)], [.inl 1], t, n, 0)) rfl (fun _ => rfl) rfl ?_
    refine ex_ret (r := (some (.inl 1), t, n, 0)) rfl (fun _ => rfl) ?_
    exact ⟨_, rfl, rfl⟩
  obtain ⟨r, e1, rfl⟩ := en_fs_at (fb := fb) (as := [.inl x, .inl lo, .inl hi]) rfl key
  exact e1
def valPo : en_post := fun as t n r => ∃ (d : Nat) (sk : List en_V) (t2 : en_H), as = [.inr (.inr (.inl (some 233))), .inl 99, .inl 0, .inl d, .inl 0] ∧ en_get t 234 = some (.inl (0, sk)) ∧ r = (some (.inl 1), t2, n, 0) ∧ ∀ j, en_get t2 j = if j = 234 then some (.inl (0, en_upd sk 0 (.inl 1))) else en_get t j
theorem val_call {fb fp fq : en_F} {d n : Nat} {t : en_H} {sk : List en_V} (h1 : en_get t 233 = some (.inr (0, [.inr (.inr (.inl (some 234))), .inr (.inr (.inl (some 235))), .inl 1]))) (h2 : en_get t 234 = some (.inl (0, sk))) (h3 : en_get t 235 = some (.inl (0, [.inl 1] ++ en_rep 999 (.inl 0)))) (hsk : en_len sk = 25) : ∃ t2 : en_H, en_fs fb (en_fs fp fq 133 partPo) 132 valPo 132 [.inr (.inr (.inl (some 233))), .inl 99, .inl 0, .inl d, .inl 0] t n = some (some (.inl 1), t2, n, 0) ∧ ∀ j, en_get t2 j = if j = 234 then some (.inl (0, en_upd sk 0 (.inl 1))) else en_get t j := by
  have key : en_ex none (en_fs fp fq 133 partPo) (en_code 132) (fun _ => false) (0, en_args [.inr (.inr (.inl (some 233))), .inl 99, .inl 0, .inl d, .inl 0] 0, [], t, n, 0) (fun o => ∃ r, o = .inl r ∧ valPo [.inr (.inr (.inl (some 233))), .inl 99, .inl 0, .inl d, .inl 0] t n r) := by
    show en_ex _ _ _ _ (0, [(0, .inr (.inr (.inl (some 233)))), (1, .inl 99), (2, .inl 0), (3, .inl d), (4, .inl 0)], [], t, n, 0) _
    refine ex_go (S := (1, [(0, .inr (.inr (.inl (some 233)))), (1, .inl 99), (2, .inl 0), (3, .inl d), (4, .inl 0)], [.inl 0], t, n, 0)) rfl (fun _ => rfl) rfl ?_
    refine ex_go (S := (3, [(5, .inl 0), (0, .inr (.inr (.inl (some 233)))), (1, .inl 99), (2, .inl 0), (3, .inl d), (4, .inl 0)], [], t, n, 0)) rfl (fun _ => rfl) rfl ?_
    refine ex_go (S := (4, [(5, .inl 0), (0, .inr (.inr (.inl (some 233)))), (1, .inl 99), (2, .inl 0), (3, .inl d), (4, .inl 0)], [.inl 0], t, n, 0)) rfl (fun _ => rfl) rfl ?_
    refine ex_go (S := (6, [(6, .inl 0), (5, .inl 0), (0, .inr (.inr (.inl (some 233)))), (1, .inl 99), (2, .inl 0), (3, .inl d), (4, .inl 0)], [], t, n, 0)) rfl (fun _ => rfl) rfl ?_
    refine ex_go (S := (8, [(6, .inl 0), (5, .inl 0), (0, .inr (.inr (.inl (some 233)))), (1, .inl 99), (2, .inl 0), (3, .inl d), (4, .inl 0)], [.inl 0], t, n, 0)) rfl (fun _ => rfl) rfl ?_
    refine ex_go (S := (9, [(6, .inl 0), (5, .inl 0), (0, .inr (.inr (.inl (some 233)))), (1, .inl 99), (2, .inl 0), (3, .inl d), (4, .inl 0)], [.inr (.inr (.inl (some 233))), .inl 0], t, n, 0)) rfl (fun _ => rfl) rfl ?_
    refine ex_getf (q := (0, [.inr (.inr (.inl (some 234))), .inr (.inr (.inl (some 235))), .inl 1])) (v := .inl 1) rfl h1 rfl rfl rfl ?_
    refine ex_go (S := (15, [(6, .inl 0), (5, .inl 0), (0, .inr (.inr (.inl (some 233)))), (1, .inl 99), (2, .inl 0), (3, .inl d), (4, .inl 0)], [], t, n, 0)) rfl (fun _ => rfl) rfl ?_
    refine ex_go (S := (16, [(6, .inl 0), (5, .inl 0), (0, .inr (.inr (.inl (some 233)))), (1, .inl 99), (2, .inl 0), (3, .inl d), (4, .inl 0)], [.inr (.inr (.inl (some 233)))], t, n, 0)) rfl (fun _ => rfl) rfl ?_
    refine ex_getf (q := (0, [.inr (.inr (.inl (some 234))), .inr (.inr (.inl (some 235))), .inl 1])) (v := .inr (.inr (.inl (some 235)))) rfl h1 rfl rfl rfl ?_
    refine ex_go (S := (21, [(6, .inl 0), (5, .inl 0), (0, .inr (.inr (.inl (some 233)))), (1, .inl 99), (2, .inl 0), (3, .inl d), (4, .inl 0)], [.inl 0, .inr (.inr (.inl (some 235)))], t, n, 0)) rfl (fun _ => rfl) rfl ?_
    refine ex_aget (q := (0, [.inl 1] ++ en_rep 999 (.inl 0))) (v := .inl 1) (cb := fun c => Nat.beq c 0) rfl (fun _ => rfl) h3 rfl rfl rfl ?_
    refine ex_go (S := (24, [(7, .inl 1), (6, .inl 0), (5, .inl 0), (0, .inr (.inr (.inl (some 233)))), (1, .inl 99), (2, .inl 0), (3, .inl d), (4, .inl 0)], [], t, n, 0)) rfl (fun _ => rfl) rfl ?_
    refine ex_go (S := (26, [(7, .inl 1), (6, .inl 0), (5, .inl 0), (0, .inr (.inr (.inl (some 233)))), (1, .inl 99), (2, .inl 0), (3, .inl d), (4, .inl 0)], [.inl 1], t, n, 0)) rfl (fun _ => rfl) rfl ?_
    refine ex_go (S := (27, [(7, .inl 1), (6, .inl 0), (5, .inl 0), (0, .inr (.inr (.inl (some 233)))), (1, .inl 99), (2, .inl 0), (3, .inl d), (4, .inl 0)], [.inl 4294967295, .inl 1], t, n, 0)) rfl (fun _ => rfl) rfl ?_
    refine ex_go (S := (64, [(7, .inl 1), (6, .inl 0), (5, .inl 0), (0, .inr (.inr (.inl (some 233)))), (1, .inl 99), (2, .inl 0), (3, .inl d), (4, .inl 0)], [], t, n, 0)) rfl (fun _ => rfl) rfl ?_
    refine ex_go (S := (66, [(7, .inl 1), (6, .inl 0), (5, .inl 0), (0, .inr (.inr (.inl (some 233)))), (1, .inl 99), (2, .inl 0), (3, .inl d), (4, .inl 0)], [.inl 1], t, n, 0)) rfl (fun _ => rfl) rfl ?_
    refine ex_go (S := (118, [(7, .inl 1), (6, .inl 0), (5, .inl 0), (0, .inr (.inr (.inl (some 233)))), (1, .inl 99), (2, .inl 0), (3, .inl d), (4, .inl 0)], [], t, n, 0)) rfl (fun _ => rfl) rfl ?_
    refine ex_go (S := (120, [(7, .inl 1), (6, .inl 0), (5, .inl 0), (0, .inr (.inr (.inl (some 233)))), (1, .inl 99), (2, .inl 0), (3, .inl d), (4, .inl 0)], [.inl 0], t, n, 0)) rfl (fun _ => rfl) rfl ?_
    refine ex_go (S := (121, [(7, .inl 1), (6, .inl 0), (5, .inl 0), (0, .inr (.inr (.inl (some 233)))), (1, .inl 99), (2, .inl 0), (3, .inl d), (4, .inl 0)], [.inr (.inr (.inl (some 233))), .inl 0], t, n, 0)) rfl (fun _ => rfl) rfl ?_
    refine ex_getf (q := (0, [.inr (.inr (.inl (some 234))), .inr (.inr (.inl (some 235))), .inl 1])) (v := .inr (.inr (.inl (some 234)))) rfl h1 rfl rfl rfl ?_
    refine ex_alen (q := (0, sk)) rfl h2 rfl rfl ?_
    rw [show en_len ((0, sk)).2 = 25 from hsk]
    show en_ex _ _ _ _ (125, [(7, .inl 1), (6, .inl 0), (5, .inl 0), (0, .inr (.inr (.inl (some 233)))), (1, .inl 99), (2, .inl 0), (3, .inl d), (4, .inl 0)], [.inl 25, .inl 0], t, n, 0) _
    refine ex_go (S := (128, [(7, .inl 1), (6, .inl 0), (5, .inl 0), (0, .inr (.inr (.inl (some 233)))), (1, .inl 99), (2, .inl 0), (3, .inl d), (4, .inl 0)], [], t, n, 0)) rfl (fun _ => rfl) rfl ?_
    refine ex_go (S := (129, [(7, .inl 1), (6, .inl 0), (5, .inl 0), (0, .inr (.inr (.inl (some 233)))), (1, .inl 99), (2, .inl 0), (3, .inl d), (4, .inl 0)], [.inr (.inr (.inl (some 233)))], t, n, 0)) rfl (fun _ => rfl) rfl ?_
    refine ex_getf (q := (0, [.inr (.inr (.inl (some 234))), .inr (.inr (.inl (some 235))), .inl 1])) (v := .inr (.inr (.inl (some 234)))) rfl h1 rfl rfl rfl ?_
    refine ex_go (S := (134, [(7, .inl 1), (6, .inl 0), (5, .inl 0), (0, .inr (.inr (.inl (some 233)))), (1, .inl 99), (2, .inl 0), (3, .inl d), (4, .inl 0)], [.inl 0, .inr (.inr (.inl (some 234)))], t, n, 0)) rfl (fun _ => rfl) rfl ?_
    refine ex_go (S := (136, [(7, .inl 1), (6, .inl 0), (5, .inl 0), (0, .inr (.inr (.inl (some 233)))), (1, .inl 99), (2, .inl 0), (3, .inl d), (4, .inl 0)], [.inl 1, .inl 0, .inr (.inr (.inl (some 234)))], t, n, 0)) rfl (fun _ => rfl) rfl ?_
    refine ex_go (S := (137, [(7, .inl 1), (6, .inl 0), (5, .inl 0), (0, .inr (.inr (.inl (some 233)))), (1, .inl 99), (2, .inl 0), (3, .inl d), (4, .inl 0)], [.inl 0, .inl 1, .inl 0, .inr (.inr (.inl (some 234)))], t, n, 0)) rfl (fun _ => rfl) rfl ?_
    refine ex_go (S := (138, [(7, .inl 1), (6, .inl 0), (5, .inl 0), (0, .inr (.inr (.inl (some 233)))), (1, .inl 99), (2, .inl 0), (3, .inl d), (4, .inl 0)], [.inl d, .inl 0, .inl 1, .inl 0, .inr (.inr (.inl (some 234)))], t, n, 0)) rfl (fun _ => rfl) rfl ?_
    refine ex_go (S := (140, [(7, .inl 1), (6, .inl 0), (5, .inl 0), (0, .inr (.inr (.inl (some 233)))), (1, .inl 99), (2, .inl 0), (3, .inl d), (4, .inl 0)], [.inl 0, .inl d, .inl 0, .inl 1, .inl 0, .inr (.inr (.inl (some 234)))], t, n, 0)) rfl (fun _ => rfl) rfl ?_
    refine ex_stat (as := [.inl 1, .inl 0, .inl d, .inl 0]) (rest := [.inl 0, .inr (.inr (.inl (some 234)))]) rfl rfl rfl rfl rfl (part_call (fb := fp) (fr := fq)) (Nat.le_refl _) rfl ?_
    show en_ex _ _ _ _ (143, [(7, .inl 1), (6, .inl 0), (5, .inl 0), (0, .inr (.inr (.inl (some 233)))), (1, .inl 99), (2, .inl 0), (3, .inl d), (4, .inl 0)], [.inl 1, .inl 0, .inr (.inr (.inl (some 234)))], t, n, 0) _
    refine ex_aput (q := (0, sk)) (d := 0) rfl (fun _ => rfl) h2 (en_afi2 (N := 25) (by decide) (by decide) hsk) rfl (fun t_0 w_t_0 => ?_)
    have ht_233 : en_get t_0 233 = some (.inr (0, [.inr (.inr (.inl (some 234))), .inr (.inr (.inl (some 235))), .inl 1])) := (w_t_0 233).trans ((if_neg (by decide)).trans h1)
    have ht_234 : en_get t_0 234 = some (.inl (0, en_upd sk 0 (.inl 1))) := (w_t_0 234).trans (if_pos rfl)
    have ht_235 : en_get t_0 235 = some (.inl (0, [.inl 1] ++ en_rep 999 (.inl 0))) := (w_t_0 235).trans ((if_neg (by decide)).trans h3)
    refine ex_go (S := (147, [(5, .inl 1), (7, .inl 1), (6, .inl 0), (0, .inr (.inr (.inl (some 233)))), (1, .inl 99), (2, .inl 0), (3, .inl d), (4, .inl 0)], [], t_0, n, 0)) rfl (fun _ => rfl) rfl ?_
    refine ex_go (S := (150, [(6, .inl 1), (5, .inl 1), (7, .inl 1), (0, .inr (.inr (.inl (some 233)))), (1, .inl 99), (2, .inl 0), (3, .inl d), (4, .inl 0)], [], t_0, n, 0)) rfl (fun _ => rfl) rfl ?_
    refine ex_go (S := (6, [(6, .inl 1), (5, .inl 1), (7, .inl 1), (0, .inr (.inr (.inl (some 233)))), (1, .inl 99), (2, .inl 0), (3, .inl d), (4, .inl 0)], [], t_0, n, 0)) rfl (fun _ => rfl) rfl ?_
    refine ex_go (S := (8, [(6, .inl 1), (5, .inl 1), (7, .inl 1), (0, .inr (.inr (.inl (some 233)))), (1, .inl 99), (2, .inl 0), (3, .inl d), (4, .inl 0)], [.inl 1], t_0, n, 0)) rfl (fun _ => rfl) rfl ?_
    refine ex_go (S := (9, [(6, .inl 1), (5, .inl 1), (7, .inl 1), (0, .inr (.inr (.inl (some 233)))), (1, .inl 99), (2, .inl 0), (3, .inl d), (4, .inl 0)], [.inr (.inr (.inl (some 233))), .inl 1], t_0, n, 0)) rfl (fun _ => rfl) rfl ?_
    refine ex_getf (q := (0, [.inr (.inr (.inl (some 234))), .inr (.inr (.inl (some 235))), .inl 1])) (v := .inl 1) rfl ht_233 rfl rfl rfl ?_
    refine ex_go (S := (153, [(6, .inl 1), (5, .inl 1), (7, .inl 1), (0, .inr (.inr (.inl (some 233)))), (1, .inl 99), (2, .inl 0), (3, .inl d), (4, .inl 0)], [], t_0, n, 0)) rfl (fun _ => rfl) rfl ?_
    refine ex_go (S := (155, [(6, .inl 1), (5, .inl 1), (7, .inl 1), (0, .inr (.inr (.inl (some 233)))), (1, .inl 99), (2, .inl 0), (3, .inl d), (4, .inl 0)], [.inl 1], t_0, n, 0)) rfl (fun _ => rfl) rfl ?_
    refine ex_go (S := (158, [(6, .inl 1), (5, .inl 1), (7, .inl 1), (0, .inr (.inr (.inl (some 233)))), (1, .inl 99), (2, .inl 0), (3, .inl d), (4, .inl 0)], [], t_0, n, 0)) rfl (fun _ => rfl) rfl ?_
    refine ex_go (S := (159, [(6, .inl 1), (5, .inl 1), (7, .inl 1), (0, .inr (.inr (.inl (some 233)))), (1, .inl 99), (2, .inl 0), (3, .inl d), (4, .inl 0)], [.inl 0], t_0, n, 0)) rfl (fun _ => rfl) rfl ?_
    refine ex_go (S := (160, [(6, .inl 1), (5, .inl 1), (7, .inl 1), (0, .inr (.inr (.inl (some 233)))), (1, .inl 99), (2, .inl 0), (3, .inl d), (4, .inl 0)], [.inl 99, .inl 0], t_0, n, 0)) rfl (fun _ => rfl) rfl ?_
    refine ex_go (S := (161, [(6, .inl 1), (5, .inl 1), (7, .inl 1), (0, .inr (.inr (.inl (some 233)))), (1, .inl 99), (2, .inl 0), (3, .inl d), (4, .inl 0)], [.inr (.inr (.inl (some 233))), .inl 99, .inl 0], t_0, n, 0)) rfl (fun _ => rfl) rfl ?_
    refine ex_getf (q := (0, [.inr (.inr (.inl (some 234))), .inr (.inr (.inl (some 235))), .inl 1])) (v := .inr (.inr (.inl (some 234)))) rfl ht_233 rfl rfl rfl ?_
    refine ex_go (S := (165, [(6, .inl 1), (5, .inl 1), (7, .inl 1), (0, .inr (.inr (.inl (some 233)))), (1, .inl 99), (2, .inl 0), (3, .inl d), (4, .inl 0)], [.inl 0, .inr (.inr (.inl (some 234))), .inl 99, .inl 0], t_0, n, 0)) rfl (fun _ => rfl) rfl ?_
    refine ex_aget (q := (0, en_upd sk 0 (.inl 1))) (v := .inl 1) (cb := fun c => Nat.beq c 0) rfl (fun _ => rfl) ht_234 rfl (en_nth_upd_same _ (by rw [hsk]; decide)) rfl ?_
    refine ex_min rfl rfl rfl (by decide) (by decide) rfl rfl ?_
    show en_ex _ _ _ _ (169, [(6, .inl 1), (5, .inl 1), (7, .inl 1), (0, .inr (.inr (.inl (some 233)))), (1, .inl 99), (2, .inl 0), (3, .inl d), (4, .inl 0)], [.inl 1, .inl 0], t_0, n, 0) _
    refine ex_max rfl rfl (by decide) (by decide) rfl rfl ?_
    show en_ex _ _ _ _ (172, [(6, .inl 1), (5, .inl 1), (7, .inl 1), (0, .inr (.inr (.inl (some 233)))), (1, .inl 99), (2, .inl 0), (3, .inl d), (4, .inl 0)], [.inl 1], t_0, n, 0) _
    refine ex_go (S := (176, [(6, .inl 1), (5, .inl 1), (7, .inl 1), (0, .inr (.inr (.inl (some 233)))), (1, .inl 99), (2, .inl 0), (3, .inl d), (4, .inl 0)], [.inl 1], t_0, n, 0)) rfl (fun _ => rfl) rfl ?_
    refine ex_ret (r := (some (.inl 1), t_0, n, 0)) rfl (fun _ => rfl) ?_
    exact ⟨_, rfl, d, sk, _, rfl, h2, rfl, w_t_0⟩
  obtain ⟨r, e1, d9, sk9, t2, q1, q2, rfl, q3⟩ := en_fs_at (fb := fb) (as := [.inr (.inr (.inl (some 233))), .inl 99, .inl 0, .inl d, .inl 0]) rfl key
  cases h2.symm.trans q2
  exact ⟨t2, e1, q3⟩
def lkV (fr k j : Nat) : Nat := if j = 0 then 4294967295 else fr + (lkF k j).2
theorem lkV_up {fr k j : Nat} (h : lkC k j < (lkF k j).1) : lkV fr k (j + 1) = fr + j ∧ (lkF k (j + 1)).1 = lkC k j := by
  have e : lkF k (j + 1) = (lkC k j, j) := if_pos h
  refine ⟨?_, by rw [e]⟩
  unfold lkV
  rw [if_neg (Nat.succ_ne_zero j), e]
theorem lkV_no {fr k j : Nat} (h : ¬ lkC k j < (lkF k j).1) (hj : 1 ≤ j) : lkV fr k (j + 1) = lkV fr k j ∧ (lkF k (j + 1)).1 = (lkF k j).1 := by
  have e : lkF k (j + 1) = lkF k j := if_neg h
  refine ⟨?_, by rw [e]⟩
  unfold lkV
  rw [if_neg (Nat.succ_ne_zero j), if_neg (by omega), e]
theorem en_ag0 {i : Nat} (h : i < 2147483648) : ((fun c => Nat.beq c 0) 0 && Nat.blt i 2147483648) = true := by
  rw [en_blt_t h]
  rfl
/-- the rows of costs from fr to fr + k, all that are shorter being known -/
def lkR (fr k : Nat) (t : en_H) : Prop := ∀ a, fr ≤ a → a ≤ fr + k → ∃ La, en_get t (148 + a) = some (.inl (0, La)) ∧ en_len La = 31 ∧ ∀ b, a ≤ b → b ≤ fr + k → b - a < k → en_nth La b = some (.inl (lkG (b - a)))
theorem fl_loop {f : en_F} {fl fr k n : Nat} {t : en_H} {pr : List en_V} (h0 : en_get t 144 = some (.inr (4, [.inl fl, .inl 0, .inl 0, .inr (.inr (.inl (some 145))), .inr (.inr (.inl (some 146))), .inr (.inr (.inl (some 147))), .inr (.inr (.inl (some 179))), .inr (.inr (.inl (some 180))), .inr (.inr (.inl (some 188))), .inr (.inr (.inl (some 189))), .inr (.inr (.inl (some 190)))]))) (hp : en_get t 146 = some (.inl (0, pr))) (hpr : ∀ x, fr ≤ x → x < fr + k → en_nth pr x = some (.inl 1)) (hc : en_get t 147 = some (.inl (7, en_refs 148 31))) (hr : lkR fr k t) (hf1 : 1 ≤ fr) (hk1 : 1 ≤ k) (hk2 : fr + k ≤ 30) : ∀ m j, 1 ≤ j → j + m = k → (∀ c, en_ex none f (en_code 145) (fun _ => false) (9, [(5, .inl (fr + j)), (4, .inl (lkV fr k j)), (3, .inl ((lkF k j).1)), (6, .inl c), (0, .inr (.inr (.inl (some 144)))), (1, .inl fr), (2, .inl (fr + k))], [], t, n, 0) (fun o => ∃ (La : List en_V) (t2 : en_H), en_get t (148 + fr) = some (.inl (0, La)) ∧ o = .inl (some (.inl (fr + lkB k (k - 1))), t2, n, 0) ∧ ∀ j, en_get t2 j = if j = 148 + fr then some (.inl (0, en_upd La (fr + k) (.inl (lkG k)))) else en_get t j)) ∧ (∀ c, en_ex none f (en_code 145) (fun _ => false) (9, [(5, .inl (fr + j)), (6, .inl c), (4, .inl (lkV fr k j)), (3, .inl ((lkF k j).1)), (0, .inr (.inr (.inl (some 144)))), (1, .inl fr), (2, .inl (fr + k))], [], t, n, 0) (fun o => ∃ (La : List en_V) (t2 : en_H), en_get t (148 + fr) = some (.inl (0, La)) ∧ o = .inl (some (.inl (fr + lkB k (k - 1))), t2, n, 0) ∧ ∀ j, en_get t2 j = if j = 148 + fr then some (.inl (0, en_upd La (fr + k) (.inl (lkG k)))) else en_get t j)) := by
  intro m
  induction m with
  | zero =>
    intro j hj hjm
    have hjk : j = k := by omega
    subst hjk
    obtain ⟨La, ra, la, ea⟩ := hr fr (by omega) (by omega)
    obtain ⟨z1, z2, -, z4⟩ := lk_at (k := j) (by omega) (by omega)
    have z5 : lkV fr j j = fr + lkB j (j - 1) := by unfold lkV; rw [if_neg (by omega), z2]
    have z6 := lkG_le j
    refine ⟨fun c => ?_, fun c => ?_⟩
    · rw [z5, z1]
      refine ex_go (S := (11, [(5, .inl (fr + j)), (4, .inl (fr + lkB j (j - 1))), (3, .inl (lkG j)), (6, .inl c), (0, .inr (.inr (.inl (some 144)))), (1, .inl fr), (2, .inl (fr + j))], [.inl (fr + j)], t, n, 0)) rfl (fun _ => rfl) rfl ?_
      refine ex_go (S := (12, [(5, .inl (fr + j)), (4, .inl (fr + lkB j (j - 1))), (3, .inl (lkG j)), (6, .inl c), (0, .inr (.inr (.inl (some 144)))), (1, .inl fr), (2, .inl (fr + j))], [.inl (fr + j), .inl (fr + j)], t, n, 0)) rfl (fun _ => rfl) rfl ?_
      refine ex_cmp2 (r := true) rfl (en_rel_t (by omega) (by omega) (rp_ge_t (by omega))) rfl ?_
      show en_ex _ _ _ _ (67, [(5, .inl (fr + j)), (4, .inl (fr + lkB j (j - 1))), (3, .inl (lkG j)), (6, .inl c), (0, .inr (.inr (.inl (some 144)))), (1, .inl fr), (2, .inl (fr + j))], [], t, n, 0) _
      refine ex_go (S := (68, [(5, .inl (fr + j)), (4, .inl (fr + lkB j (j - 1))), (3, .inl (lkG j)), (6, .inl c), (0, .inr (.inr (.inl (some 144)))), (1, .inl fr), (2, .inl (fr + j))], [.inr (.inr (.inl (some 144)))], t, n, 0)) rfl (fun _ => rfl) rfl ?_
      refine ex_getf (q := (4, [.inl fl, .inl 0, .inl 0, .inr (.inr (.inl (some 145))), .inr (.inr (.inl (some 146))), .inr (.inr (.inl (some 147))), .inr (.inr (.inl (some 179))), .inr (.inr (.inl (some 180))), .inr (.inr (.inl (some 188))), .inr (.inr (.inl (some 189))), .inr (.inr (.inl (some 190)))])) (v := .inr (.inr (.inl (some 147)))) rfl h0 rfl rfl rfl ?_
      refine ex_go (S := (72, [(5, .inl (fr + j)), (4, .inl (fr + lkB j (j - 1))), (3, .inl (lkG j)), (6, .inl c), (0, .inr (.inr (.inl (some 144)))), (1, .inl fr), (2, .inl (fr + j))], [.inl fr, .inr (.inr (.inl (some 147)))], t, n, 0)) rfl (fun _ => rfl) rfl ?_
      refine ex_aget (q := (7, en_refs 148 31)) (v := .inr (.inr (.inl (some (148 + fr))))) (cb := fun c => Nat.ble 4 c && Nat.ble c 7) rfl (fun _ => rfl) hc (en_aga (by omega)) (en_nth_refs 31 148 fr (by omega)) rfl ?_
      refine ex_go (S := (74, [(5, .inl (fr + j)), (4, .inl (fr + lkB j (j - 1))), (3, .inl (lkG j)), (6, .inl c), (0, .inr (.inr (.inl (some 144)))), (1, .inl fr), (2, .inl (fr + j))], [.inl (fr + j), .inr (.inr (.inl (some (148 + fr))))], t, n, 0)) rfl (fun _ => rfl) rfl ?_
      refine ex_go (S := (75, [(5, .inl (fr + j)), (4, .inl (fr + lkB j (j - 1))), (3, .inl (lkG j)), (6, .inl c), (0, .inr (.inr (.inl (some 144)))), (1, .inl fr), (2, .inl (fr + j))], [.inl (lkG j), .inl (fr + j), .inr (.inr (.inl (some (148 + fr))))], t, n, 0)) rfl (fun _ => rfl) rfl ?_
      refine ex_aput (q := (0, La)) (d := 0) rfl (fun _ => rfl) ra (en_afi2 (N := 31) (by omega) (by decide) la) rfl (fun t_0 w_t_0 => ?_)
      have ht_144 : en_get t_0 144 = some (.inr (4, [.inl fl, .inl 0, .inl 0, .inr (.inr (.inl (some 145))), .inr (.inr (.inl (some 146))), .inr (.inr (.inl (some 147))), .inr (.inr (.inl (some 179))), .inr (.inr (.inl (some 180))), .inr (.inr (.inl (some 188))), .inr (.inr (.inl (some 189))), .inr (.inr (.inl (some 190)))])) := (w_t_0 144).trans ((if_neg (by omega)).trans h0)
      have ht_147 : en_get t_0 147 = some (.inl (7, en_refs 148 31)) := (w_t_0 147).trans ((if_neg (by omega)).trans hc)
      have ht_148_fr : en_get t_0 (148 + fr) = some (.inl (0, en_upd La (fr + j) (.inl (lkG j)))) := (w_t_0 (148 + fr)).trans (if_pos rfl)
      refine ex_go (S := (78, [(5, .inl (fr + j)), (4, .inl (fr + lkB j (j - 1))), (3, .inl (lkG j)), (6, .inl c), (0, .inr (.inr (.inl (some 144)))), (1, .inl fr), (2, .inl (fr + j))], [.inl (fr + lkB j (j - 1))], t_0, n, 0)) rfl (fun _ => rfl) rfl ?_
      refine ex_ret (r := (some (.inl (fr + lkB j (j - 1))), t_0, n, 0)) rfl (fun _ => rfl) ?_
      exact ⟨La, _, ra, rfl, w_t_0⟩
    · rw [z5, z1]
      refine ex_go (S := (11, [(5, .inl (fr + j)), (6, .inl c), (4, .inl (fr + lkB j (j - 1))), (3, .inl (lkG j)), (0, .inr (.inr (.inl (some 144)))), (1, .inl fr), (2, .inl (fr + j))], [.inl (fr + j)], t, n, 0)) rfl (fun _ => rfl) rfl ?_
      refine ex_go (S := (12, [(5, .inl (fr + j)), (6, .inl c), (4, .inl (fr + lkB j (j - 1))), (3, .inl (lkG j)), (0, .inr (.inr (.inl (some 144)))), (1, .inl fr), (2, .inl (fr + j))], [.inl (fr + j), .inl (fr + j)], t, n, 0)) rfl (fun _ => rfl) rfl ?_
      refine ex_cmp2 (r := true) rfl (en_rel_t (by omega) (by omega) (rp_ge_t (by omega))) rfl ?_
      show en_ex _ _ _ _ (67, [(5, .inl (fr + j)), (6, .inl c), (4, .inl (fr + lkB j (j - 1))), (3, .inl (lkG j)), (0, .inr (.inr (.inl (some 144)))), (1, .inl fr), (2, .inl (fr + j))], [], t, n, 0) _
      refine ex_go (S := (68, [(5, .inl (fr + j)), (6, .inl c), (4, .inl (fr + lkB j (j - 1))), (3, .inl (lkG j)), (0, .inr (.inr (.inl (some 144)))), (1, .inl fr), (2, .inl (fr + j))], [.inr (.inr (.inl (some 144)))], t, n, 0)) rfl (fun _ => rfl) rfl ?_
      refine ex_getf (q := (4, [.inl fl, .inl 0, .inl 0, .inr (.inr (.inl (some 145))), .inr (.inr (.inl (some 146))), .inr (.inr (.inl (some 147))), .inr (.inr (.inl (some 179))), .inr (.inr (.inl (some 180))), .inr (.inr (.inl (some 188))), .inr (.inr (.inl (some 189))), .inr (.inr (.inl (some 190)))])) (v := .inr (.inr (.inl (some 147)))) rfl h0 rfl rfl rfl ?_
      refine ex_go (S := (72, [(5, .inl (fr + j)), (6, .inl c), (4, .inl (fr + lkB j (j - 1))), (3, .inl (lkG j)), (0, .inr (.inr (.inl (some 144)))), (1, .inl fr), (2, .inl (fr + j))], [.inl fr, .inr (.inr (.inl (some 147)))], t, n, 0)) rfl (fun _ => rfl) rfl ?_
      refine ex_aget (q := (7, en_refs 148 31)) (v := .inr (.inr (.inl (some (148 + fr))))) (cb := fun c => Nat.ble 4 c && Nat.ble c 7) rfl (fun _ => rfl) hc (en_aga (by omega)) (en_nth_refs 31 148 fr (by omega)) rfl ?_
      refine ex_go (S := (74, [(5, .inl (fr + j)), (6, .inl c), (4, .inl (fr + lkB j (j - 1))), (3, .inl (lkG j)), (0, .inr (.inr (.inl (some 144)))), (1, .inl fr), (2, .inl (fr + j))], [.inl (fr + j), .inr (.inr (.inl (some (148 + fr))))], t, n, 0)) rfl (fun _ => rfl) rfl ?_
      refine ex_go (S := (75, [(5, .inl (fr + j)), (6, .inl c), (4, .inl (fr + lkB j (j - 1))), (3, .inl (lkG j)), (0, .inr (.inr (.inl (some 144)))), (1, .inl fr), (2, .inl (fr + j))], [.inl (lkG j), .inl (fr + j), .inr (.inr (.inl (some (148 + fr))))], t, n, 0)) rfl (fun _ => rfl) rfl ?_
      refine ex_aput (q := (0, La)) (d := 0) rfl (fun _ => rfl) ra (en_afi2 (N := 31) (by omega) (by decide) la) rfl (fun t_0 w_t_0 => ?_)
      have ht_144 : en_get t_0 144 = some (.inr (4, [.inl fl, .inl 0, .inl 0, .inr (.inr (.inl (some 145))), .inr (.inr (.inl (some 146))), .inr (.inr (.inl (some 147))), .inr (.inr (.inl (some 179))), .inr (.inr (.inl (some 180))), .inr (.inr (.inl (some 188))), .inr (.inr (.inl (some 189))), .inr (.inr (.inl (some 190)))])) := (w_t_0 144).trans ((if_neg (by omega)).trans h0)
      have ht_147 : en_get t_0 147 = some (.inl (7, en_refs 148 31)) := (w_t_0 147).trans ((if_neg (by omega)).trans hc)
      have ht_148_fr : en_get t_0 (148 + fr) = some (.inl (0, en_upd La (fr + j) (.inl (lkG j)))) := (w_t_0 (148 + fr)).trans (if_pos rfl)
      refine ex_go (S := (78, [(5, .inl (fr + j)), (6, .inl c), (4, .inl (fr + lkB j (j - 1))), (3, .inl (lkG j)), (0, .inr (.inr (.inl (some 144)))), (1, .inl fr), (2, .inl (fr + j))], [.inl (fr + lkB j (j - 1))], t_0, n, 0)) rfl (fun _ => rfl) rfl ?_
      refine ex_ret (r := (some (.inl (fr + lkB j (j - 1))), t_0, n, 0)) rfl (fun _ => rfl) ?_
      exact ⟨La, _, ra, rfl, w_t_0⟩
  | succ m ih =>
    intro j hj hjm
    have ihn := ih (j + 1) (by omega) (by omega)
    have f1 := lkF_le k j
    have g1 := lkG_le j
    have g2 := lkG_le (k - 1 - j)
    have g3 := lkC_le k j
    obtain ⟨La, ra, la, ea⟩ := hr fr (by omega) (by omega)
    have ra1 : en_nth La (fr + j) = some (.inl (lkG j)) := by rw [ea (fr + j) (by omega) (by omega) (by omega), show fr + j - fr = j by omega]
    obtain ⟨Lb, rb, lb, eb⟩ := hr (fr + j + 1) (by omega) (by omega)
    have rb1 : en_nth Lb (fr + k) = some (.inl (lkG (k - 1 - j))) := by rw [eb (fr + k) (by omega) (by omega) (by omega), show fr + k - (fr + j + 1) = k - 1 - j by omega]
    have f2 : lkV fr k j < 2147483648 ∨ True := Or.inr trivial
    by_cases hlt : lkC k j < (lkF k j).1
    · obtain ⟨u1, u2⟩ := lkV_up (fr := fr) hlt
      rw [u1, u2] at ihn
      refine ⟨fun c => ?_, fun c => ?_⟩
      · refine ex_go (S := (11, [(5, .inl (fr + j)), (4, .inl (lkV fr k j)), (3, .inl ((lkF k j).1)), (6, .inl c), (0, .inr (.inr (.inl (some 144)))), (1, .inl fr), (2, .inl (fr + k))], [.inl (fr + j)], t, n, 0)) rfl (fun _ => rfl) rfl ?_
        refine ex_go (S := (12, [(5, .inl (fr + j)), (4, .inl (lkV fr k j)), (3, .inl ((lkF k j).1)), (6, .inl c), (0, .inr (.inr (.inl (some 144)))), (1, .inl fr), (2, .inl (fr + k))], [.inl (fr + k), .inl (fr + j)], t, n, 0)) rfl (fun _ => rfl) rfl ?_
        refine ex_cmp2 (r := false) rfl (en_rel_f (by omega) (by omega) (rp_ge_f (by omega))) rfl ?_
        show en_ex _ _ _ _ (15, [(5, .inl (fr + j)), (4, .inl (lkV fr k j)), (3, .inl ((lkF k j).1)), (6, .inl c), (0, .inr (.inr (.inl (some 144)))), (1, .inl fr), (2, .inl (fr + k))], [], t, n, 0) _
        refine ex_go (S := (16, [(5, .inl (fr + j)), (4, .inl (lkV fr k j)), (3, .inl ((lkF k j).1)), (6, .inl c), (0, .inr (.inr (.inl (some 144)))), (1, .inl fr), (2, .inl (fr + k))], [.inr (.inr (.inl (some 144)))], t, n, 0)) rfl (fun _ => rfl) rfl ?_
        refine ex_getf (q := (4, [.inl fl, .inl 0, .inl 0, .inr (.inr (.inl (some 145))), .inr (.inr (.inl (some 146))), .inr (.inr (.inl (some 147))), .inr (.inr (.inl (some 179))), .inr (.inr (.inl (some 180))), .inr (.inr (.inl (some 188))), .inr (.inr (.inl (some 189))), .inr (.inr (.inl (some 190)))])) (v := .inr (.inr (.inl (some 146)))) rfl h0 rfl rfl rfl ?_
        refine ex_go (S := (21, [(5, .inl (fr + j)), (4, .inl (lkV fr k j)), (3, .inl ((lkF k j).1)), (6, .inl c), (0, .inr (.inr (.inl (some 144)))), (1, .inl fr), (2, .inl (fr + k))], [.inl (fr + j), .inr (.inr (.inl (some 146)))], t, n, 0)) rfl (fun _ => rfl) rfl ?_
        refine ex_aget (q := (0, pr)) (v := .inl 1) (cb := fun c => Nat.beq c 0) rfl (fun _ => rfl) hp (en_ag0 (by omega)) (hpr (fr + j) (by omega) (by omega)) rfl ?_
        refine ex_go (S := (23, [(5, .inl (fr + j)), (4, .inl (lkV fr k j)), (3, .inl ((lkF k j).1)), (6, .inl c), (0, .inr (.inr (.inl (some 144)))), (1, .inl fr), (2, .inl (fr + k))], [.inr (.inr (.inl (some 144))), .inl 1], t, n, 0)) rfl (fun _ => rfl) rfl ?_
        refine ex_getf (q := (4, [.inl fl, .inl 0, .inl 0, .inr (.inr (.inl (some 145))), .inr (.inr (.inl (some 146))), .inr (.inr (.inl (some 147))), .inr (.inr (.inl (some 179))), .inr (.inr (.inl (some 180))), .inr (.inr (.inl (some 188))), .inr (.inr (.inl (some 189))), .inr (.inr (.inl (some 190)))])) (v := .inr (.inr (.inl (some 147)))) rfl h0 rfl rfl rfl ?_
        refine ex_go (S := (27, [(5, .inl (fr + j)), (4, .inl (lkV fr k j)), (3, .inl ((lkF k j).1)), (6, .inl c), (0, .inr (.inr (.inl (some 144)))), (1, .inl fr), (2, .inl (fr + k))], [.inl fr, .inr (.inr (.inl (some 147))), .inl 1], t, n, 0)) rfl (fun _ => rfl) rfl ?_
        refine ex_aget (q := (7, en_refs 148 31)) (v := .inr (.inr (.inl (some (148 + fr))))) (cb := fun c => Nat.ble 4 c && Nat.ble c 7) rfl (fun _ => rfl) hc (en_aga (by omega)) (en_nth_refs 31 148 fr (by omega)) rfl ?_
        refine ex_go (S := (30, [(5, .inl (fr + j)), (4, .inl (lkV fr k j)), (3, .inl ((lkF k j).1)), (6, .inl c), (0, .inr (.inr (.inl (some 144)))), (1, .inl fr), (2, .inl (fr + k))], [.inl (fr + j), .inr (.inr (.inl (some (148 + fr)))), .inl 1], t, n, 0)) rfl (fun _ => rfl) rfl ?_
        refine ex_aget (q := (0, La)) (v := .inl (lkG j)) (cb := fun c => Nat.beq c 0) rfl (fun _ => rfl) ra (en_ag0 (by omega)) ra1 rfl ?_
        refine ex_go (S := (32, [(5, .inl (fr + j)), (4, .inl (lkV fr k j)), (3, .inl ((lkF k j).1)), (6, .inl c), (0, .inr (.inr (.inl (some 144)))), (1, .inl fr), (2, .inl (fr + k))], [.inr (.inr (.inl (some 144))), .inl (lkG j), .inl 1], t, n, 0)) rfl (fun _ => rfl) rfl ?_
        refine ex_getf (q := (4, [.inl fl, .inl 0, .inl 0, .inr (.inr (.inl (some 145))), .inr (.inr (.inl (some 146))), .inr (.inr (.inl (some 147))), .inr (.inr (.inl (some 179))), .inr (.inr (.inl (some 180))), .inr (.inr (.inl (some 188))), .inr (.inr (.inl (some 189))), .inr (.inr (.inl (some 190)))])) (v := .inr (.inr (.inl (some 147)))) rfl h0 rfl rfl rfl ?_
        refine ex_go (S := (37, [(5, .inl (fr + j)), (4, .inl (lkV fr k j)), (3, .inl ((lkF k j).1)), (6, .inl c), (0, .inr (.inr (.inl (some 144)))), (1, .inl fr), (2, .inl (fr + k))], [.inl (fr + j), .inr (.inr (.inl (some 147))), .inl (lkG j), .inl 1], t, n, 0)) rfl (fun _ => rfl) rfl ?_
        refine ex_go (S := (38, [(5, .inl (fr + j)), (4, .inl (lkV fr k j)), (3, .inl ((lkF k j).1)), (6, .inl c), (0, .inr (.inr (.inl (some 144)))), (1, .inl fr), (2, .inl (fr + k))], [.inl 1, .inl (fr + j), .inr (.inr (.inl (some 147))), .inl (lkG j), .inl 1], t, n, 0)) rfl (fun _ => rfl) rfl ?_
        refine ex_iadd rfl (by omega) rfl ?_
        refine ex_aget (q := (7, en_refs 148 31)) (v := .inr (.inr (.inl (some (148 + (fr + j + 1)))))) (cb := fun c => Nat.ble 4 c && Nat.ble c 7) rfl (fun _ => rfl) hc (en_aga (by omega)) (en_nth_refs 31 148 (fr + j + 1) (by omega)) rfl ?_
        refine ex_go (S := (41, [(5, .inl (fr + j)), (4, .inl (lkV fr k j)), (3, .inl ((lkF k j).1)), (6, .inl c), (0, .inr (.inr (.inl (some 144)))), (1, .inl fr), (2, .inl (fr + k))], [.inl (fr + k), .inr (.inr (.inl (some (148 + (fr + j + 1))))), .inl (lkG j), .inl 1], t, n, 0)) rfl (fun _ => rfl) rfl ?_
        refine ex_aget (q := (0, Lb)) (v := .inl (lkG (k - 1 - j))) (cb := fun c => Nat.beq c 0) rfl (fun _ => rfl) rb (en_ag0 (by omega)) rb1 rfl ?_
        refine ex_max rfl rfl (by omega) (by omega) rfl rfl ?_
        show en_ex _ _ _ _ (45, [(5, .inl (fr + j)), (4, .inl (lkV fr k j)), (3, .inl ((lkF k j).1)), (6, .inl c), (0, .inr (.inr (.inl (some 144)))), (1, .inl fr), (2, .inl (fr + k))], [.inl (max (lkG j) (lkG (k - 1 - j))), .inl 1], t, n, 0) _
        refine ex_iadd rfl (by omega) rfl ?_
        show en_ex _ _ _ _ (46, [(5, .inl (fr + j)), (4, .inl (lkV fr k j)), (3, .inl ((lkF k j).1)), (6, .inl c), (0, .inr (.inr (.inl (some 144)))), (1, .inl fr), (2, .inl (fr + k))], [.inl (lkC k j)], t, n, 0) _
        refine ex_go (S := (48, [(6, .inl (lkC k j)), (5, .inl (fr + j)), (4, .inl (lkV fr k j)), (3, .inl ((lkF k j).1)), (0, .inr (.inr (.inl (some 144)))), (1, .inl fr), (2, .inl (fr + k))], [], t, n, 0)) rfl (fun _ => rfl) rfl ?_
        refine ex_go (S := (50, [(6, .inl (lkC k j)), (5, .inl (fr + j)), (4, .inl (lkV fr k j)), (3, .inl ((lkF k j).1)), (0, .inr (.inr (.inl (some 144)))), (1, .inl fr), (2, .inl (fr + k))], [.inl (lkC k j)], t, n, 0)) rfl (fun _ => rfl) rfl ?_
        refine ex_go (S := (51, [(6, .inl (lkC k j)), (5, .inl (fr + j)), (4, .inl (lkV fr k j)), (3, .inl ((lkF k j).1)), (0, .inr (.inr (.inl (some 144)))), (1, .inl fr), (2, .inl (fr + k))], [.inl ((lkF k j).1), .inl (lkC k j)], t, n, 0)) rfl (fun _ => rfl) rfl ?_
        refine ex_cmp2 (r := false) rfl (en_rel_f (by omega) (by omega) (rp_ge_f hlt)) rfl ?_
        show en_ex _ _ _ _ (54, [(6, .inl (lkC k j)), (5, .inl (fr + j)), (4, .inl (lkV fr k j)), (3, .inl ((lkF k j).1)), (0, .inr (.inr (.inl (some 144)))), (1, .inl fr), (2, .inl (fr + k))], [], t, n, 0) _
        refine ex_go (S := (56, [(6, .inl (lkC k j)), (5, .inl (fr + j)), (4, .inl (lkV fr k j)), (3, .inl ((lkF k j).1)), (0, .inr (.inr (.inl (some 144)))), (1, .inl fr), (2, .inl (fr + k))], [.inl (lkC k j)], t, n, 0)) rfl (fun _ => rfl) rfl ?_
        refine ex_go (S := (57, [(3, .inl (lkC k j)), (6, .inl (lkC k j)), (5, .inl (fr + j)), (4, .inl (lkV fr k j)), (0, .inr (.inr (.inl (some 144)))), (1, .inl fr), (2, .inl (fr + k))], [], t, n, 0)) rfl (fun _ => rfl) rfl ?_
        refine ex_go (S := (59, [(3, .inl (lkC k j)), (6, .inl (lkC k j)), (5, .inl (fr + j)), (4, .inl (lkV fr k j)), (0, .inr (.inr (.inl (some 144)))), (1, .inl fr), (2, .inl (fr + k))], [.inl (fr + j)], t, n, 0)) rfl (fun _ => rfl) rfl ?_
        refine ex_go (S := (61, [(4, .inl (fr + j)), (3, .inl (lkC k j)), (6, .inl (lkC k j)), (5, .inl (fr + j)), (0, .inr (.inr (.inl (some 144)))), (1, .inl fr), (2, .inl (fr + k))], [], t, n, 0)) rfl (fun _ => rfl) rfl ?_
        refine ex_go (S := (64, [(5, .inl (en_wrap (fr + j + 1))), (4, .inl (fr + j)), (3, .inl (lkC k j)), (6, .inl (lkC k j)), (0, .inr (.inr (.inl (some 144)))), (1, .inl fr), (2, .inl (fr + k))], [], t, n, 0)) rfl (fun _ => rfl) rfl ?_
        rw [show en_wrap (fr + j + 1) = fr + (j + 1) from (by unfold en_wrap; rw [Nat.mod_eq_of_lt (by omega)]; try omega)]
        refine ex_go (S := (9, [(5, .inl (fr + (j + 1))), (4, .inl (fr + j)), (3, .inl (lkC k j)), (6, .inl (lkC k j)), (0, .inr (.inr (.inl (some 144)))), (1, .inl fr), (2, .inl (fr + k))], [], t, n, 0)) rfl (fun _ => rfl) rfl ?_
        exact ihn.1 (lkC k j)
      · refine ex_go (S := (11, [(5, .inl (fr + j)), (6, .inl c), (4, .inl (lkV fr k j)), (3, .inl ((lkF k j).1)), (0, .inr (.inr (.inl (some 144)))), (1, .inl fr), (2, .inl (fr + k))], [.inl (fr + j)], t, n, 0)) rfl (fun _ => rfl) rfl ?_
        refine ex_go (S := (12, [(5, .inl (fr + j)), (6, .inl c), (4, .inl (lkV fr k j)), (3, .inl ((lkF k j).1)), (0, .inr (.inr (.inl (some 144)))), (1, .inl fr), (2, .inl (fr + k))], [.inl (fr + k), .inl (fr + j)], t, n, 0)) rfl (fun _ => rfl) rfl ?_
        refine ex_cmp2 (r := false) rfl (en_rel_f (by omega) (by omega) (rp_ge_f (by omega))) rfl ?_
        show en_ex _ _ _ _ (15, [(5, .inl (fr + j)), (6, .inl c), (4, .inl (lkV fr k j)), (3, .inl ((lkF k j).1)), (0, .inr (.inr (.inl (some 144)))), (1, .inl fr), (2, .inl (fr + k))], [], t, n, 0) _
        refine ex_go (S := (16, [(5, .inl (fr + j)), (6, .inl c), (4, .inl (lkV fr k j)), (3, .inl ((lkF k j).1)), (0, .inr (.inr (.inl (some 144)))), (1, .inl fr), (2, .inl (fr + k))], [.inr (.inr (.inl (some 144)))], t, n, 0)) rfl (fun _ => rfl) rfl ?_
        refine ex_getf (q := (4, [.inl fl, .inl 0, .inl 0, .inr (.inr (.inl (some 145))), .inr (.inr (.inl (some 146))), .inr (.inr (.inl (some 147))), .inr (.inr (.inl (some 179))), .inr (.inr (.inl (some 180))), .inr (.inr (.inl (some 188))), .inr (.inr (.inl (some 189))), .inr (.inr (.inl (some 190)))])) (v := .inr (.inr (.inl (some 146)))) rfl h0 rfl rfl rfl ?_
        refine ex_go (S := (21, [(5, .inl (fr + j)), (6, .inl c), (4, .inl (lkV fr k j)), (3, .inl ((lkF k j).1)), (0, .inr (.inr (.inl (some 144)))), (1, .inl fr), (2, .inl (fr + k))], [.inl (fr + j), .inr (.inr (.inl (some 146)))], t, n, 0)) rfl (fun _ => rfl) rfl ?_
        refine ex_aget (q := (0, pr)) (v := .inl 1) (cb := fun c => Nat.beq c 0) rfl (fun _ => rfl) hp (en_ag0 (by omega)) (hpr (fr + j) (by omega) (by omega)) rfl ?_
        refine ex_go (S := (23, [(5, .inl (fr + j)), (6, .inl c), (4, .inl (lkV fr k j)), (3, .inl ((lkF k j).1)), (0, .inr (.inr (.inl (some 144)))), (1, .inl fr), (2, .inl (fr + k))], [.inr (.inr (.inl (some 144))), .inl 1], t, n, 0)) rfl (fun _ => rfl) rfl ?_
        refine ex_getf (q := (4, [.inl fl, .inl 0, .inl 0, .inr (.inr (.inl (some 145))), .inr (.inr (.inl (some 146))), .inr (.inr (.inl (some 147))), .inr (.inr (.inl (some 179))), .inr (.inr (.inl (some 180))), .inr (.inr (.inl (some 188))), .inr (.inr (.inl (some 189))), .inr (.inr (.inl (some 190)))])) (v := .inr (.inr (.inl (some 147)))) rfl h0 rfl rfl rfl ?_
        refine ex_go (S := (27, [(5, .inl (fr + j)), (6, .inl c), (4, .inl (lkV fr k j)), (3, .inl ((lkF k j).1)), (0, .inr (.inr (.inl (some 144)))), (1, .inl fr), (2, .inl (fr + k))], [.inl fr, .inr (.inr (.inl (some 147))), .inl 1], t, n, 0)) rfl (fun _ => rfl) rfl ?_
        refine ex_aget (q := (7, en_refs 148 31)) (v := .inr (.inr (.inl (some (148 + fr))))) (cb := fun c => Nat.ble 4 c && Nat.ble c 7) rfl (fun _ => rfl) hc (en_aga (by omega)) (en_nth_refs 31 148 fr (by omega)) rfl ?_
        refine ex_go (S := (30, [(5, .inl (fr + j)), (6, .inl c), (4, .inl (lkV fr k j)), (3, .inl ((lkF k j).1)), (0, .inr (.inr (.inl (some 144)))), (1, .inl fr), (2, .inl (fr + k))], [.inl (fr + j), .inr (.inr (.inl (some (148 + fr)))), .inl 1], t, n, 0)) rfl (fun _ => rfl) rfl ?_
        refine ex_aget (q := (0, La)) (v := .inl (lkG j)) (cb := fun c => Nat.beq c 0) rfl (fun _ => rfl) ra (en_ag0 (by omega)) ra1 rfl ?_
        refine ex_go (S := (32, [(5, .inl (fr + j)), (6, .inl c), (4, .inl (lkV fr k j)), (3, .inl ((lkF k j).1)), (0, .inr (.inr (.inl (some 144)))), (1, .inl fr), (2, .inl (fr + k))], [.inr (.inr (.inl (some 144))), .inl (lkG j), .inl 1], t, n, 0)) rfl (fun _ => rfl) rfl ?_
        refine ex_getf (q := (4, [.inl fl, .inl 0, .inl 0, .inr (.inr (.inl (some 145))), .inr (.inr (.inl (some 146))), .inr (.inr (.inl (some 147))), .inr (.inr (.inl (some 179))), .inr (.inr (.inl (some 180))), .inr (.inr (.inl (some 188))), .inr (.inr (.inl (some 189))), .inr (.inr (.inl (some 190)))])) (v := .inr (.inr (.inl (some 147)))) rfl h0 rfl rfl rfl ?_
        refine ex_go (S := (37, [(5, .inl (fr + j)), (6, .inl c), (4, .inl (lkV fr k j)), (3, .inl ((lkF k j).1)), (0, .inr (.inr (.inl (some 144)))), (1, .inl fr), (2, .inl (fr + k))], [.inl (fr + j), .inr (.inr (.inl (some 147))), .inl (lkG j), .inl 1], t, n, 0)) rfl (fun _ => rfl) rfl ?_
        refine ex_go (S := (38, [(5, .inl (fr + j)), (6, .inl c), (4, .inl (lkV fr k j)), (3, .inl ((lkF k j).1)), (0, .inr (.inr (.inl (some 144)))), (1, .inl fr), (2, .inl (fr + k))], [.inl 1, .inl (fr + j), .inr (.inr (.inl (some 147))), .inl (lkG j), .inl 1], t, n, 0)) rfl (fun _ => rfl) rfl ?_
        refine ex_iadd rfl (by omega) rfl ?_
        refine ex_aget (q := (7, en_refs 148 31)) (v := .inr (.inr (.inl (some (148 + (fr + j + 1)))))) (cb := fun c => Nat.ble 4 c && Nat.ble c 7) rfl (fun _ => rfl) hc (en_aga (by omega)) (en_nth_refs 31 148 (fr + j + 1) (by omega)) rfl ?_
        refine ex_go (S := (41, [(5, .inl (fr + j)), (6, .inl c), (4, .inl (lkV fr k j)), (3, .inl ((lkF k j).1)), (0, .inr (.inr (.inl (some 144)))), (1, .inl fr), (2, .inl (fr + k))], [.inl (fr + k), .inr (.inr (.inl (some (148 + (fr + j + 1))))), .inl (lkG j), .inl 1], t, n, 0)) rfl (fun _ => rfl) rfl ?_
        refine ex_aget (q := (0, Lb)) (v := .inl (lkG (k - 1 - j))) (cb := fun c => Nat.beq c 0) rfl (fun _ => rfl) rb (en_ag0 (by omega)) rb1 rfl ?_
        refine ex_max rfl rfl (by omega) (by omega) rfl rfl ?_
        show en_ex _ _ _ _ (45, [(5, .inl (fr + j)), (6, .inl c), (4, .inl (lkV fr k j)), (3, .inl ((lkF k j).1)), (0, .inr (.inr (.inl (some 144)))), (1, .inl fr), (2, .inl (fr + k))], [.inl (max (lkG j) (lkG (k - 1 - j))), .inl 1], t, n, 0) _
        refine ex_iadd rfl (by omega) rfl ?_
        show en_ex _ _ _ _ (46, [(5, .inl (fr + j)), (6, .inl c), (4, .inl (lkV fr k j)), (3, .inl ((lkF k j).1)), (0, .inr (.inr (.inl (some 144)))), (1, .inl fr), (2, .inl (fr + k))], [.inl (lkC k j)], t, n, 0) _
        refine ex_go (S := (48, [(6, .inl (lkC k j)), (5, .inl (fr + j)), (4, .inl (lkV fr k j)), (3, .inl ((lkF k j).1)), (0, .inr (.inr (.inl (some 144)))), (1, .inl fr), (2, .inl (fr + k))], [], t, n, 0)) rfl (fun _ => rfl) rfl ?_
        refine ex_go (S := (50, [(6, .inl (lkC k j)), (5, .inl (fr + j)), (4, .inl (lkV fr k j)), (3, .inl ((lkF k j).1)), (0, .inr (.inr (.inl (some 144)))), (1, .inl fr), (2, .inl (fr + k))], [.inl (lkC k j)], t, n, 0)) rfl (fun _ => rfl) rfl ?_
        refine ex_go (S := (51, [(6, .inl (lkC k j)), (5, .inl (fr + j)), (4, .inl (lkV fr k j)), (3, .inl ((lkF k j).1)), (0, .inr (.inr (.inl (some 144)))), (1, .inl fr), (2, .inl (fr + k))], [.inl ((lkF k j).1), .inl (lkC k j)], t, n, 0)) rfl (fun _ => rfl) rfl ?_
        refine ex_cmp2 (r := false) rfl (en_rel_f (by omega) (by omega) (rp_ge_f hlt)) rfl ?_
        show en_ex _ _ _ _ (54, [(6, .inl (lkC k j)), (5, .inl (fr + j)), (4, .inl (lkV fr k j)), (3, .inl ((lkF k j).1)), (0, .inr (.inr (.inl (some 144)))), (1, .inl fr), (2, .inl (fr + k))], [], t, n, 0) _
        refine ex_go (S := (56, [(6, .inl (lkC k j)), (5, .inl (fr + j)), (4, .inl (lkV fr k j)), (3, .inl ((lkF k j).1)), (0, .inr (.inr (.inl (some 144)))), (1, .inl fr), (2, .inl (fr + k))], [.inl (lkC k j)], t, n, 0)) rfl (fun _ => rfl) rfl ?_
        refine ex_go (S := (57, [(3, .inl (lkC k j)), (6, .inl (lkC k j)), (5, .inl (fr + j)), (4, .inl (lkV fr k j)), (0, .inr (.inr (.inl (some 144)))), (1, .inl fr), (2, .inl (fr + k))], [], t, n, 0)) rfl (fun _ => rfl) rfl ?_
        refine ex_go (S := (59, [(3, .inl (lkC k j)), (6, .inl (lkC k j)), (5, .inl (fr + j)), (4, .inl (lkV fr k j)), (0, .inr (.inr (.inl (some 144)))), (1, .inl fr), (2, .inl (fr + k))], [.inl (fr + j)], t, n, 0)) rfl (fun _ => rfl) rfl ?_
        refine ex_go (S := (61, [(4, .inl (fr + j)), (3, .inl (lkC k j)), (6, .inl (lkC k j)), (5, .inl (fr + j)), (0, .inr (.inr (.inl (some 144)))), (1, .inl fr), (2, .inl (fr + k))], [], t, n, 0)) rfl (fun _ => rfl) rfl ?_
        refine ex_go (S := (64, [(5, .inl (en_wrap (fr + j + 1))), (4, .inl (fr + j)), (3, .inl (lkC k j)), (6, .inl (lkC k j)), (0, .inr (.inr (.inl (some 144)))), (1, .inl fr), (2, .inl (fr + k))], [], t, n, 0)) rfl (fun _ => rfl) rfl ?_
        rw [show en_wrap (fr + j + 1) = fr + (j + 1) from (by unfold en_wrap; rw [Nat.mod_eq_of_lt (by omega)]; try omega)]
        refine ex_go (S := (9, [(5, .inl (fr + (j + 1))), (4, .inl (fr + j)), (3, .inl (lkC k j)), (6, .inl (lkC k j)), (0, .inr (.inr (.inl (some 144)))), (1, .inl fr), (2, .inl (fr + k))], [], t, n, 0)) rfl (fun _ => rfl) rfl ?_
        exact ihn.1 (lkC k j)
    · obtain ⟨u1, u2⟩ := lkV_no (fr := fr) hlt hj
      rw [u1, u2] at ihn
      refine ⟨fun c => ?_, fun c => ?_⟩
      · refine ex_go (S := (11, [(5, .inl (fr + j)), (4, .inl (lkV fr k j)), (3, .inl ((lkF k j).1)), (6, .inl c), (0, .inr (.inr (.inl (some 144)))), (1, .inl fr), (2, .inl (fr + k))], [.inl (fr + j)], t, n, 0)) rfl (fun _ => rfl) rfl ?_
        refine ex_go (S := (12, [(5, .inl (fr + j)), (4, .inl (lkV fr k j)), (3, .inl ((lkF k j).1)), (6, .inl c), (0, .inr (.inr (.inl (some 144)))), (1, .inl fr), (2, .inl (fr + k))], [.inl (fr + k), .inl (fr + j)], t, n, 0)) rfl (fun _ => rfl) rfl ?_
        refine ex_cmp2 (r := false) rfl (en_rel_f (by omega) (by omega) (rp_ge_f (by omega))) rfl ?_
        show en_ex _ _ _ _ (15, [(5, .inl (fr + j)), (4, .inl (lkV fr k j)), (3, .inl ((lkF k j).1)), (6, .inl c), (0, .inr (.inr (.inl (some 144)))), (1, .inl fr), (2, .inl (fr + k))], [], t, n, 0) _
        refine ex_go (S := (16, [(5, .inl (fr + j)), (4, .inl (lkV fr k j)), (3, .inl ((lkF k j).1)), (6, .inl c), (0, .inr (.inr (.inl (some 144)))), (1, .inl fr), (2, .inl (fr + k))], [.inr (.inr (.inl (some 144)))], t, n, 0)) rfl (fun _ => rfl) rfl ?_
        refine ex_getf (q := (4, [.inl fl, .inl 0, .inl 0, .inr (.inr (.inl (some 145))), .inr (.inr (.inl (some 146))), .inr (.inr (.inl (some 147))), .inr (.inr (.inl (some 179))), .inr (.inr (.inl (some 180))), .inr (.inr (.inl (some 188))), .inr (.inr (.inl (some 189))), .inr (.inr (.inl (some 190)))])) (v := .inr (.inr (.inl (some 146)))) rfl h0 rfl rfl rfl ?_
        refine ex_go (S := (21, [(5, .inl (fr + j)), (4, .inl (lkV fr k j)), (3, .inl ((lkF k j).1)), (6, .inl c), (0, .inr (.inr (.inl (some 144)))), (1, .inl fr), (2, .inl (fr + k))], [.inl (fr + j), .inr (.inr (.inl (some 146)))], t, n, 0)) rfl (fun _ => rfl) rfl ?_
        refine ex_aget (q := (0, pr)) (v := .inl 1) (cb := fun c => Nat.beq c 0) rfl (fun _ => rfl) hp (en_ag0 (by omega)) (hpr (fr + j) (by omega) (by omega)) rfl ?_
        refine ex_go (S := (23, [(5, .inl (fr + j)), (4, .inl (lkV fr k j)), (3, .inl ((lkF k j).1)), (6, .inl c), (0, .inr (.inr (.inl (some 144)))), (1, .inl fr), (2, .inl (fr + k))], [.inr (.inr (.inl (some 144))), .inl 1], t, n, 0)) rfl (fun _ => rfl) rfl ?_
        refine ex_getf (q := (4, [.inl fl, .inl 0, .inl 0, .inr (.inr (.inl (some 145))), .inr (.inr (.inl (some 146))), .inr (.inr (.inl (some 147))), .inr (.inr (.inl (some 179))), .inr (.inr (.inl (some 180))), .inr (.inr (.inl (some 188))), .inr (.inr (.inl (some 189))), .inr (.inr (.inl (some 190)))])) (v := .inr (.inr (.inl (some 147)))) rfl h0 rfl rfl rfl ?_
        refine ex_go (S := (27, [(5, .inl (fr + j)), (4, .inl (lkV fr k j)), (3, .inl ((lkF k j).1)), (6, .inl c), (0, .inr (.inr (.inl (some 144)))), (1, .inl fr), (2, .inl (fr + k))], [.inl fr, .inr (.inr (.inl (some 147))), .inl 1], t, n, 0)) rfl (fun _ => rfl) rfl ?_
        refine ex_aget (q := (7, en_refs 148 31)) (v := .inr (.inr (.inl (some (148 + fr))))) (cb := fun c => Nat.ble 4 c && Nat.ble c 7) rfl (fun _ => rfl) hc (en_aga (by omega)) (en_nth_refs 31 148 fr (by omega)) rfl ?_
        refine ex_go (S := (30, [(5, .inl (fr + j)), (4, .inl (lkV fr k j)), (3, .inl ((lkF k j).1)), (6, .inl c), (0, .inr (.inr (.inl (some 144)))), (1, .inl fr), (2, .inl (fr + k))], [.inl (fr + j), .inr (.inr (.inl (some (148 + fr)))), .inl 1], t, n, 0)) rfl (fun _ => rfl) rfl ?_
        refine ex_aget (q := (0, La)) (v := .inl (lkG j)) (cb := fun c => Nat.beq c 0) rfl (fun _ => rfl) ra (en_ag0 (by omega)) ra1 rfl ?_
        refine ex_go (S := (32, [(5, .inl (fr + j)), (4, .inl (lkV fr k j)), (3, .inl ((lkF k j).1)), (6, .inl c), (0, .inr (.inr (.inl (some 144)))), (1, .inl fr), (2, .inl (fr + k))], [.inr (.inr (.inl (some 144))), .inl (lkG j), .inl 1], t, n, 0)) rfl (fun _ => rfl) rfl ?_
        refine ex_getf (q := (4, [.inl fl, .inl 0, .inl 0, .inr (.inr (.inl (some 145))), .inr (.inr (.inl (some 146))), .inr (.inr (.inl (some 147))), .inr (.inr (.inl (some 179))), .inr (.inr (.inl (some 180))), .inr (.inr (.inl (some 188))), .inr (.inr (.inl (some 189))), .inr (.inr (.inl (some 190)))])) (v := .inr (.inr (.inl (some 147)))) rfl h0 rfl rfl rfl ?_
        refine ex_go (S := (37, [(5, .inl (fr + j)), (4, .inl (lkV fr k j)), (3, .inl ((lkF k j).1)), (6, .inl c), (0, .inr (.inr (.inl (some 144)))), (1, .inl fr), (2, .inl (fr + k))], [.inl (fr + j), .inr (.inr (.inl (some 147))), .inl (lkG j), .inl 1], t, n, 0)) rfl (fun _ => rfl) rfl ?_
        refine ex_go (S := (38, [(5, .inl (fr + j)), (4, .inl (lkV fr k j)), (3, .inl ((lkF k j).1)), (6, .inl c), (0, .inr (.inr (.inl (some 144)))), (1, .inl fr), (2, .inl (fr + k))], [.inl 1, .inl (fr + j), .inr (.inr (.inl (some 147))), .inl (lkG j), .inl 1], t, n, 0)) rfl (fun _ => rfl) rfl ?_
        refine ex_iadd rfl (by omega) rfl ?_
        refine ex_aget (q := (7, en_refs 148 31)) (v := .inr (.inr (.inl (some (148 + (fr + j + 1)))))) (cb := fun c => Nat.ble 4 c && Nat.ble c 7) rfl (fun _ => rfl) hc (en_aga (by omega)) (en_nth_refs 31 148 (fr + j + 1) (by omega)) rfl ?_
        refine ex_go (S := (41, [(5, .inl (fr + j)), (4, .inl (lkV fr k j)), (3, .inl ((lkF k j).1)), (6, .inl c), (0, .inr (.inr (.inl (some 144)))), (1, .inl fr), (2, .inl (fr + k))], [.inl (fr + k), .inr (.inr (.inl (some (148 + (fr + j + 1))))), .inl (lkG j), .inl 1], t, n, 0)) rfl (fun _ => rfl) rfl ?_
        refine ex_aget (q := (0, Lb)) (v := .inl (lkG (k - 1 - j))) (cb := fun c => Nat.beq c 0) rfl (fun _ => rfl) rb (en_ag0 (by omega)) rb1 rfl ?_
        refine ex_max rfl rfl (by omega) (by omega) rfl rfl ?_
        show en_ex _ _ _ _ (45, [(5, .inl (fr + j)), (4, .inl (lkV fr k j)), (3, .inl ((lkF k j).1)), (6, .inl c), (0, .inr (.inr (.inl (some 144)))), (1, .inl fr), (2, .inl (fr + k))], [.inl (max (lkG j) (lkG (k - 1 - j))), .inl 1], t, n, 0) _
        refine ex_iadd rfl (by omega) rfl ?_
        show en_ex _ _ _ _ (46, [(5, .inl (fr + j)), (4, .inl (lkV fr k j)), (3, .inl ((lkF k j).1)), (6, .inl c), (0, .inr (.inr (.inl (some 144)))), (1, .inl fr), (2, .inl (fr + k))], [.inl (lkC k j)], t, n, 0) _
        refine ex_go (S := (48, [(6, .inl (lkC k j)), (5, .inl (fr + j)), (4, .inl (lkV fr k j)), (3, .inl ((lkF k j).1)), (0, .inr (.inr (.inl (some 144)))), (1, .inl fr), (2, .inl (fr + k))], [], t, n, 0)) rfl (fun _ => rfl) rfl ?_
        refine ex_go (S := (50, [(6, .inl (lkC k j)), (5, .inl (fr + j)), (4, .inl (lkV fr k j)), (3, .inl ((lkF k j).1)), (0, .inr (.inr (.inl (some 144)))), (1, .inl fr), (2, .inl (fr + k))], [.inl (lkC k j)], t, n, 0)) rfl (fun _ => rfl) rfl ?_
        refine ex_go (S := (51, [(6, .inl (lkC k j)), (5, .inl (fr + j)), (4, .inl (lkV fr k j)), (3, .inl ((lkF k j).1)), (0, .inr (.inr (.inl (some 144)))), (1, .inl fr), (2, .inl (fr + k))], [.inl ((lkF k j).1), .inl (lkC k j)], t, n, 0)) rfl (fun _ => rfl) rfl ?_
        refine ex_cmp2 (r := true) rfl (en_rel_t (by omega) (by omega) (rp_ge_t (by omega))) rfl ?_
        show en_ex _ _ _ _ (61, [(6, .inl (lkC k j)), (5, .inl (fr + j)), (4, .inl (lkV fr k j)), (3, .inl ((lkF k j).1)), (0, .inr (.inr (.inl (some 144)))), (1, .inl fr), (2, .inl (fr + k))], [], t, n, 0) _
        refine ex_go (S := (64, [(5, .inl (en_wrap (fr + j + 1))), (6, .inl (lkC k j)), (4, .inl (lkV fr k j)), (3, .inl ((lkF k j).1)), (0, .inr (.inr (.inl (some 144)))), (1, .inl fr), (2, .inl (fr + k))], [], t, n, 0)) rfl (fun _ => rfl) rfl ?_
        rw [show en_wrap (fr + j + 1) = fr + (j + 1) from (by unfold en_wrap; rw [Nat.mod_eq_of_lt (by omega)]; try omega)]
        refine ex_go (S := (9, [(5, .inl (fr + (j + 1))), (6, .inl (lkC k j)), (4, .inl (lkV fr k j)), (3, .inl ((lkF k j).1)), (0, .inr (.inr (.inl (some 144)))), (1, .inl fr), (2, .inl (fr + k))], [], t, n, 0)) rfl (fun _ => rfl) rfl ?_
        exact ihn.2 (lkC k j)
      · refine ex_go (S := (11, [(5, .inl (fr + j)), (6, .inl c), (4, .inl (lkV fr k j)), (3, .inl ((lkF k j).1)), (0, .inr (.inr (.inl (some 144)))), (1, .inl fr), (2, .inl (fr + k))], [.inl (fr + j)], t, n, 0)) rfl (fun _ => rfl) rfl ?_
        refine ex_go (S := (12, [(5, .inl (fr + j)), (6, .inl c), (4, .inl (lkV fr k j)), (3, .inl ((lkF k j).1)), (0, .inr (.inr (.inl (some 144)))), (1, .inl fr), (2, .inl (fr + k))], [.inl (fr + k), .inl (fr + j)], t, n, 0)) rfl (fun _ => rfl) rfl ?_
        refine ex_cmp2 (r := false) rfl (en_rel_f (by omega) (by omega) (rp_ge_f (by omega))) rfl ?_
        show en_ex _ _ _ _ (15, [(5, .inl (fr + j)), (6, .inl c), (4, .inl (lkV fr k j)), (3, .inl ((lkF k j).1)), (0, .inr (.inr (.inl (some 144)))), (1, .inl fr), (2, .inl (fr + k))], [], t, n, 0) _
        refine ex_go (S := (16, [(5, .inl (fr + j)), (6, .inl c), (4, .inl (lkV fr k j)), (3, .inl ((lkF k j).1)), (0, .inr (.inr (.inl (some 144)))), (1, .inl fr), (2, .inl (fr + k))], [.inr (.inr (.inl (some 144)))], t, n, 0)) rfl (fun _ => rfl) rfl ?_
        refine ex_getf (q := (4, [.inl fl, .inl 0, .inl 0, .inr (.inr (.inl (some 145))), .inr (.inr (.inl (some 146))), .inr (.inr (.inl (some 147))), .inr (.inr (.inl (some 179))), .inr (.inr (.inl (some 180))), .inr (.inr (.inl (some 188))), .inr (.inr (.inl (some 189))), .inr (.inr (.inl (some 190)))])) (v := .inr (.inr (.inl (some 146)))) rfl h0 rfl rfl rfl ?_
        refine ex_go (S := (21, [(5, .inl (fr + j)), (6, .inl c), (4, .inl (lkV fr k j)), (3, .inl ((lkF k j).1)), (0, .inr (.inr (.inl (some 144)))), (1, .inl fr), (2, .inl (fr + k))], [.inl (fr + j), .inr (.inr (.inl (some 146)))], t, n, 0)) rfl (fun _ => rfl) rfl ?_
        refine ex_aget (q := (0, pr)) (v := .inl 1) (cb := fun c => Nat.beq c 0) rfl (fun _ => rfl) hp (en_ag0 (by omega)) (hpr (fr + j) (by omega) (by omega)) rfl ?_
        refine ex_go (S := (23, [(5, .inl (fr + j)), (6, .inl c), (4, .inl (lkV fr k j)), (3, .inl ((lkF k j).1)), (0, .inr (.inr (.inl (some 144)))), (1, .inl fr), (2, .inl (fr + k))], [.inr (.inr (.inl (some 144))), .inl 1], t, n, 0)) rfl (fun _ => rfl) rfl ?_
        refine ex_getf (q := (4, [.inl fl, .inl 0, .inl 0, .inr (.inr (.inl (some 145))), .inr (.inr (.inl (some 146))), .inr (.inr (.inl (some 147))), .inr (.inr (.inl (some 179))), .inr (.inr (.inl (some 180))), .inr (.inr (.inl (some 188))), .inr (.inr (.inl (some 189))), .inr (.inr (.inl (some 190)))])) (v := .inr (.inr (.inl (some 147)))) rfl h0 rfl rfl rfl ?_
        refine ex_go (S := (27, [(5, .inl (fr + j)), (6, .inl c), (4, .inl (lkV fr k j)), (3, .inl ((lkF k j).1)), (0, .inr (.inr (.inl (some 144)))), (1, .inl fr), (2, .inl (fr + k))], [.inl fr, .inr (.inr (.inl (some 147))), .inl 1], t, n, 0)) rfl (fun _ => rfl) rfl ?_
        refine ex_aget (q := (7, en_refs 148 31)) (v := .inr (.inr (.inl (some (148 + fr))))) (cb := fun c => Nat.ble 4 c && Nat.ble c 7) rfl (fun _ => rfl) hc (en_aga (by omega)) (en_nth_refs 31 148 fr (by omega)) rfl ?_
        refine ex_go (S := (30, [(5, .inl (fr + j)), (6, .inl c), (4, .inl (lkV fr k j)), (3, .inl ((lkF k j).1)), (0, .inr (.inr (.inl (some 144)))), (1, .inl fr), (2, .inl (fr + k))], [.inl (fr + j), .inr (.inr (.inl (some (148 + fr)))), .inl 1], t, n, 0)) rfl (fun _ => rfl) rfl ?_
        refine ex_aget (q := (0, La)) (v := .inl (lkG j)) (cb := fun c => Nat.beq c 0) rfl (fun _ => rfl) ra (en_ag0 (by omega)) ra1 rfl ?_
        refine ex_go (S := (32, [(5, .inl (fr + j)), (6, .inl c), (4, .inl (lkV fr k j)), (3, .inl ((lkF k j).1)), (0, .inr (.inr (.inl (some 144)))), (1, .inl fr), (2, .inl (fr + k))], [.inr (.inr (.inl (some 144))), .inl (lkG j), .inl 1], t, n, 0)) rfl (fun _ => rfl) rfl ?_
        refine ex_getf (q := (4, [.inl fl, .inl 0, .inl 0, .inr (.inr (.inl (some 145))), .inr (.inr (.inl (some 146))), .inr (.inr (.inl (some 147))), .inr (.inr (.inl (some 179))), .inr (.inr (.inl (some 180))), .inr (.inr (.inl (some 188))), .inr (.inr (.inl (some 189))), .inr (.inr (.inl (some 190)))])) (v := .inr (.inr (.inl (some 147)))) rfl h0 rfl rfl rfl ?_
        refine ex_go (S := (37, [(5, .inl (fr + j)), (6, .inl c), (4, .inl (lkV fr k j)), (3, .inl ((lkF k j).1)), (0, .inr (.inr (.inl (some 144)))), (1, .inl fr), (2, .inl (fr + k))], [.inl (fr + j), .inr (.inr (.inl (some 147))), .inl (lkG j), .inl 1], t, n, 0)) rfl (fun _ => rfl) rfl ?_
        refine ex_go (S := (38, [(5, .inl (fr + j)), (6, .inl c), (4, .inl (lkV fr k j)), (3, .inl ((lkF k j).1)), (0, .inr (.inr (.inl (some 144)))), (1, .inl fr), (2, .inl (fr + k))], [.inl 1, .inl (fr + j), .inr (.inr (.inl (some 147))), .inl (lkG j), .inl 1], t, n, 0)) rfl (fun _ => rfl) rfl ?_
        refine ex_iadd rfl (by omega) rfl ?_
        refine ex_aget (q := (7, en_refs 148 31)) (v := .inr (.inr (.inl (some (148 + (fr + j + 1)))))) (cb := fun c => Nat.ble 4 c && Nat.ble c 7) rfl (fun _ => rfl) hc (en_aga (by omega)) (en_nth_refs 31 148 (fr + j + 1) (by omega)) rfl ?_
        refine ex_go (S := (41, [(5, .inl (fr + j)), (6, .inl c), (4, .inl (lkV fr k j)), (3, .inl ((lkF k j).1)), (0, .inr (.inr (.inl (some 144)))), (1, .inl fr), (2, .inl (fr + k))], [.inl (fr + k), .inr (.inr (.inl (some (148 + (fr + j + 1))))), .inl (lkG j), .inl 1], t, n, 0)) rfl (fun _ => rfl) rfl ?_
        refine ex_aget (q := (0, Lb)) (v := .inl (lkG (k - 1 - j))) (cb := fun c => Nat.beq c 0) rfl (fun _ => rfl) rb (en_ag0 (by omega)) rb1 rfl ?_
        refine ex_max rfl rfl (by omega) (by omega) rfl rfl ?_
        show en_ex _ _ _ _ (45, [(5, .inl (fr + j)), (6, .inl c), (4, .inl (lkV fr k j)), (3, .inl ((lkF k j).1)), (0, .inr (.inr (.inl (some 144)))), (1, .inl fr), (2, .inl (fr + k))], [.inl (max (lkG j) (lkG (k - 1 - j))), .inl 1], t, n, 0) _
        refine ex_iadd rfl (by omega) rfl ?_
        show en_ex _ _ _ _ (46, [(5, .inl (fr + j)), (6, .inl c), (4, .inl (lkV fr k j)), (3, .inl ((lkF k j).1)), (0, .inr (.inr (.inl (some 144)))), (1, .inl fr), (2, .inl (fr + k))], [.inl (lkC k j)], t, n, 0) _
        refine ex_go (S := (48, [(6, .inl (lkC k j)), (5, .inl (fr + j)), (4, .inl (lkV fr k j)), (3, .inl ((lkF k j).1)), (0, .inr (.inr (.inl (some 144)))), (1, .inl fr), (2, .inl (fr + k))], [], t, n, 0)) rfl (fun _ => rfl) rfl ?_
        refine ex_go (S := (50, [(6, .inl (lkC k j)), (5, .inl (fr + j)), (4, .inl (lkV fr k j)), (3, .inl ((lkF k j).1)), (0, .inr (.inr (.inl (some 144)))), (1, .inl fr), (2, .inl (fr + k))], [.inl (lkC k j)], t, n, 0)) rfl (fun _ => rfl) rfl ?_
        refine ex_go (S := (51, [(6, .inl (lkC k j)), (5, .inl (fr + j)), (4, .inl (lkV fr k j)), (3, .inl ((lkF k j).1)), (0, .inr (.inr (.inl (some 144)))), (1, .inl fr), (2, .inl (fr + k))], [.inl ((lkF k j).1), .inl (lkC k j)], t, n, 0)) rfl (fun _ => rfl) rfl ?_
        refine ex_cmp2 (r := true) rfl (en_rel_t (by omega) (by omega) (rp_ge_t (by omega))) rfl ?_
        show en_ex _ _ _ _ (61, [(6, .inl (lkC k j)), (5, .inl (fr + j)), (4, .inl (lkV fr k j)), (3, .inl ((lkF k j).1)), (0, .inr (.inr (.inl (some 144)))), (1, .inl fr), (2, .inl (fr + k))], [], t, n, 0) _
        refine ex_go (S := (64, [(5, .inl (en_wrap (fr + j + 1))), (6, .inl (lkC k j)), (4, .inl (lkV fr k j)), (3, .inl ((lkF k j).1)), (0, .inr (.inr (.inl (some 144)))), (1, .inl fr), (2, .inl (fr + k))], [], t, n, 0)) rfl (fun _ => rfl) rfl ?_
        rw [show en_wrap (fr + j + 1) = fr + (j + 1) from (by unfold en_wrap; rw [Nat.mod_eq_of_lt (by omega)]; try omega)]
        refine ex_go (S := (9, [(5, .inl (fr + (j + 1))), (6, .inl (lkC k j)), (4, .inl (lkV fr k j)), (3, .inl ((lkF k j).1)), (0, .inr (.inr (.inl (some 144)))), (1, .inl fr), (2, .inl (fr + k))], [], t, n, 0)) rfl (fun _ => rfl) rfl ?_
        exact ihn.2 (lkC k j)
def flPo : en_post := fun as t n r => ∃ (fr k : Nat) (La : List en_V) (t2 : en_H), as = [.inr (.inr (.inl (some 144))), .inl fr, .inl (fr + k)] ∧ en_get t (148 + fr) = some (.inl (0, La)) ∧ r = (some (.inl (fr + lkB k (k - 1))), t2, n, 0) ∧ ∀ j, en_get t2 j = if j = 148 + fr then some (.inl (0, en_upd La (fr + k) (.inl (lkG k)))) else en_get t j
theorem fl_call {fb f : en_F} {fl fr k n : Nat} {t : en_H} {pr : List en_V} (h0 : en_get t 144 = some (.inr (4, [.inl fl, .inl 0, .inl 0, .inr (.inr (.inl (some 145))), .inr (.inr (.inl (some 146))), .inr (.inr (.inl (some 147))), .inr (.inr (.inl (some 179))), .inr (.inr (.inl (some 180))), .inr (.inr (.inl (some 188))), .inr (.inr (.inl (some 189))), .inr (.inr (.inl (some 190)))]))) (hp : en_get t 146 = some (.inl (0, pr))) (hpr : ∀ x, fr ≤ x → x < fr + k → en_nth pr x = some (.inl 1)) (hc : en_get t 147 = some (.inl (7, en_refs 148 31))) (hr : lkR fr k t) (hf1 : 1 ≤ fr) (hk1 : 1 ≤ k) (hk2 : fr + k ≤ 30) : ∃ (La : List en_V) (t2 : en_H), en_get t (148 + fr) = some (.inl (0, La)) ∧ en_fs fb f 145 flPo 145 [.inr (.inr (.inl (some 144))), .inl fr, .inl (fr + k)] t n = some (some (.inl (fr + lkB k (k - 1))), t2, n, 0) ∧ ∀ j, en_get t2 j = if j = 148 + fr then some (.inl (0, en_upd La (fr + k) (.inl (lkG k)))) else en_get t j := by
  have key : en_ex none f (en_code 145) (fun _ => false) (0, en_args [.inr (.inr (.inl (some 144))), .inl fr, .inl (fr + k)] 0, [], t, n, 0) (fun o => ∃ r, o = .inl r ∧ flPo [.inr (.inr (.inl (some 144))), .inl fr, .inl (fr + k)] t n r) := by
    show en_ex _ _ _ _ (0, [(0, .inr (.inr (.inl (some 144)))), (1, .inl fr), (2, .inl (fr + k))], [], t, n, 0) _
    refine ex_go (S := (2, [(0, .inr (.inr (.inl (some 144)))), (1, .inl fr), (2, .inl (fr + k))], [.inl 1000000000], t, n, 0)) rfl (fun _ => rfl) rfl ?_
    refine ex_go (S := (3, [(3, .inl 1000000000), (0, .inr (.inr (.inl (some 144)))), (1, .inl fr), (2, .inl (fr + k))], [], t, n, 0)) rfl (fun _ => rfl) rfl ?_
    refine ex_go (S := (4, [(3, .inl 1000000000), (0, .inr (.inr (.inl (some 144)))), (1, .inl fr), (2, .inl (fr + k))], [.inl 4294967295], t, n, 0)) rfl (fun _ => rfl) rfl ?_
    refine ex_go (S := (6, [(4, .inl 4294967295), (3, .inl 1000000000), (0, .inr (.inr (.inl (some 144)))), (1, .inl fr), (2, .inl (fr + k))], [], t, n, 0)) rfl (fun _ => rfl) rfl ?_
    refine ex_go (S := (7, [(4, .inl 4294967295), (3, .inl 1000000000), (0, .inr (.inr (.inl (some 144)))), (1, .inl fr), (2, .inl (fr + k))], [.inl fr], t, n, 0)) rfl (fun _ => rfl) rfl ?_
    refine ex_go (S := (9, [(5, .inl fr), (4, .inl 4294967295), (3, .inl 1000000000), (0, .inr (.inr (.inl (some 144)))), (1, .inl fr), (2, .inl (fr + k))], [], t, n, 0)) rfl (fun _ => rfl) rfl ?_
    have f1 := lkF_le k 0
    have g1 := lkG_le 0
    have g2 := lkG_le (k - 1 - 0)
    have g3 := lkC_le k 0
    obtain ⟨La, ra, la, ea⟩ := hr fr (by omega) (by omega)
    have ra1 : en_nth La (fr) = some (.inl (lkG 0)) := by rw [ea (fr) (by omega) (by omega) (by omega), show fr - fr = 0 by omega]
    obtain ⟨Lb, rb, lb, eb⟩ := hr (fr + 1) (by omega) (by omega)
    have rb1 : en_nth Lb (fr + k) = some (.inl (lkG (k - 1 - 0))) := by rw [eb (fr + k) (by omega) (by omega) (by omega), show fr + k - (fr + 1) = k - 1 - 0 by omega]
    have hlt : lkC k 0 < (lkF k 0).1 := by show lkC k 0 < 1000000000; omega
    obtain ⟨u1, u2⟩ := lkV_up (fr := fr) hlt
    have fin := (fl_loop (f := f) (n := n) h0 hp hpr hc hr hf1 hk1 hk2 (k - 1) 1 (by omega) (by omega)).1 (lkC k 0)
    rw [u1, u2] at fin
    refine ex_go (S := (11, [(5, .inl fr), (4, .inl 4294967295), (3, .inl 1000000000), (0, .inr (.inr (.inl (some 144)))), (1, .inl fr), (2, .inl (fr + k))], [.inl fr], t, n, 0)) rfl (fun _ => rfl) rfl ?_
    refine ex_go (S := (12, [(5, .inl fr), (4, .inl 4294967295), (3, .inl 1000000000), (0, .inr (.inr (.inl (some 144)))), (1, .inl fr), (2, .inl (fr + k))], [.inl (fr + k), .inl fr], t, n, 0)) rfl (fun _ => rfl) rfl ?_
    refine ex_cmp2 (r := false) rfl (en_rel_f (by omega) (by omega) (rp_ge_f (by omega))) rfl ?_
    show en_ex _ _ _ _ (15, [(5, .inl fr), (4, .inl 4294967295), (3, .inl 1000000000), (0, .inr (.inr (.inl (some 144)))), (1, .inl fr), (2, .inl (fr + k))], [], t, n, 0) _
    refine ex_go (S := (16, [(5, .inl fr), (4, .inl 4294967295), (3, .inl 1000000000), (0, .inr (.inr (.inl (some 144)))), (1, .inl fr), (2, .inl (fr + k))], [.inr (.inr (.inl (some 144)))], t, n, 0)) rfl (fun _ => rfl) rfl ?_
    refine ex_getf (q := (4, [.inl fl, .inl 0, .inl 0, .inr (.inr (.inl (some 145))), .inr (.inr (.inl (some 146))), .inr (.inr (.inl (some 147))), .inr (.inr (.inl (some 179))), .inr (.inr (.inl (some 180))), .inr (.inr (.inl (some 188))), .inr (.inr (.inl (some 189))), .inr (.inr (.inl (some 190)))])) (v := .inr (.inr (.inl (some 146)))) rfl h0 rfl rfl rfl ?_
    refine ex_go (S := (21, [(5, .inl fr), (4, .inl 4294967295), (3, .inl 1000000000), (0, .inr (.inr (.inl (some 144)))), (1, .inl fr), (2, .inl (fr + k))], [.inl fr, .inr (.inr (.inl (some 146)))], t, n, 0)) rfl (fun _ => rfl) rfl ?_
    refine ex_aget (q := (0, pr)) (v := .inl 1) (cb := fun c => Nat.beq c 0) rfl (fun _ => rfl) hp (en_ag0 (by omega)) (hpr fr (by omega) (by omega)) rfl ?_
    refine ex_go (S := (23, [(5, .inl fr), (4, .inl 4294967295), (3, .inl 1000000000), (0, .inr (.inr (.inl (some 144)))), (1, .inl fr), (2, .inl (fr + k))], [.inr (.inr (.inl (some 144))), .inl 1], t, n, 0)) rfl (fun _ => rfl) rfl ?_
    refine ex_getf (q := (4, [.inl fl, .inl 0, .inl 0, .inr (.inr (.inl (some 145))), .inr (.inr (.inl (some 146))), .inr (.inr (.inl (some 147))), .inr (.inr (.inl (some 179))), .inr (.inr (.inl (some 180))), .inr (.inr (.inl (some 188))), .inr (.inr (.inl (some 189))), .inr (.inr (.inl (some 190)))])) (v := .inr (.inr (.inl (some 147)))) rfl h0 rfl rfl rfl ?_
    refine ex_go (S := (27, [(5, .inl fr), (4, .inl 4294967295), (3, .inl 1000000000), (0, .inr (.inr (.inl (some 144)))), (1, .inl fr), (2, .inl (fr + k))], [.inl fr, .inr (.inr (.inl (some 147))), .inl 1], t, n, 0)) rfl (fun _ => rfl) rfl ?_
    refine ex_aget (q := (7, en_refs 148 31)) (v := .inr (.inr (.inl (some (148 + fr))))) (cb := fun c => Nat.ble 4 c && Nat.ble c 7) rfl (fun _ => rfl) hc (en_aga (by omega)) (en_nth_refs 31 148 fr (by omega)) rfl ?_
    refine ex_go (S := (30, [(5, .inl fr), (4, .inl 4294967295), (3, .inl 1000000000), (0, .inr (.inr (.inl (some 144)))), (1, .inl fr), (2, .inl (fr + k))], [.inl fr, .inr (.inr (.inl (some (148 + fr)))), .inl 1], t, n, 0)) rfl (fun _ => rfl) rfl ?_
    refine ex_aget (q := (0, La)) (v := .inl (lkG 0)) (cb := fun c => Nat.beq c 0) rfl (fun _ => rfl) ra (en_ag0 (by omega)) ra1 rfl ?_
    refine ex_go (S := (32, [(5, .inl fr), (4, .inl 4294967295), (3, .inl 1000000000), (0, .inr (.inr (.inl (some 144)))), (1, .inl fr), (2, .inl (fr + k))], [.inr (.inr (.inl (some 144))), .inl (lkG 0), .inl 1], t, n, 0)) rfl (fun _ => rfl) rfl ?_
    refine ex_getf (q := (4, [.inl fl, .inl 0, .inl 0, .inr (.inr (.inl (some 145))), .inr (.inr (.inl (some 146))), .inr (.inr (.inl (some 147))), .inr (.inr (.inl (some 179))), .inr (.inr (.inl (some 180))), .inr (.inr (.inl (some 188))), .inr (.inr (.inl (some 189))), .inr (.inr (.inl (some 190)))])) (v := .inr (.inr (.inl (some 147)))) rfl h0 rfl rfl rfl ?_
    refine ex_go (S := (37, [(5, .inl fr), (4, .inl 4294967295), (3, .inl 1000000000), (0, .inr (.inr (.inl (some 144)))), (1, .inl fr), (2, .inl (fr + k))], [.inl fr, .inr (.inr (.inl (some 147))), .inl (lkG 0), .inl 1], t, n, 0)) rfl (fun _ => rfl) rfl ?_
    refine ex_go (S := (38, [(5, .inl fr), (4, .inl 4294967295), (3, .inl 1000000000), (0, .inr (.inr (.inl (some 144)))), (1, .inl fr), (2, .inl (fr + k))], [.inl 1, .inl fr, .inr (.inr (.inl (some 147))), .inl (lkG 0), .inl 1], t, n, 0)) rfl (fun _ => rfl) rfl ?_
    refine ex_iadd rfl (by omega) rfl ?_
    refine ex_aget (q := (7, en_refs 148 31)) (v := .inr (.inr (.inl (some (148 + (fr + 1)))))) (cb := fun c => Nat.ble 4 c && Nat.ble c 7) rfl (fun _ => rfl) hc (en_aga (by omega)) (en_nth_refs 31 148 (fr + 1) (by omega)) rfl ?_
    refine ex_go (S := (41, [(5, .inl fr), (4, .inl 4294967295), (3, .inl 1000000000), (0, .inr (.inr (.inl (some 144)))), (1, .inl fr), (2, .inl (fr + k))], [.inl (fr + k), .inr (.inr (.inl (some (148 + (fr + 1))))), .inl (lkG 0), .inl 1], t, n, 0)) rfl (fun _ => rfl) rfl ?_
    refine ex_aget (q := (0, Lb)) (v := .inl (lkG (k - 1 - 0))) (cb := fun c => Nat.beq c 0) rfl (fun _ => rfl) rb (en_ag0 (by omega)) rb1 rfl ?_
    refine ex_max rfl rfl (by omega) (by omega) rfl rfl ?_
    show en_ex _ _ _ _ (45, [(5, .inl fr), (4, .inl 4294967295), (3, .inl 1000000000), (0, .inr (.inr (.inl (some 144)))), (1, .inl fr), (2, .inl (fr + k))], [.inl (max (lkG 0) (lkG (k - 1 - 0))), .inl 1], t, n, 0) _
    refine ex_iadd rfl (by omega) rfl ?_
    show en_ex _ _ _ _ (46, [(5, .inl fr), (4, .inl 4294967295), (3, .inl 1000000000), (0, .inr (.inr (.inl (some 144)))), (1, .inl fr), (2, .inl (fr + k))], [.inl (lkC k 0)], t, n, 0) _
    refine ex_go (S := (48, [(6, .inl (lkC k 0)), (5, .inl fr), (4, .inl 4294967295), (3, .inl 1000000000), (0, .inr (.inr (.inl (some 144)))), (1, .inl fr), (2, .inl (fr + k))], [], t, n, 0)) rfl (fun _ => rfl) rfl ?_
    refine ex_go (S := (50, [(6, .inl (lkC k 0)), (5, .inl fr), (4, .inl 4294967295), (3, .inl 1000000000), (0, .inr (.inr (.inl (some 144)))), (1, .inl fr), (2, .inl (fr + k))], [.inl (lkC k 0)], t, n, 0)) rfl (fun _ => rfl) rfl ?_
    refine ex_go (S := (51, [(6, .inl (lkC k 0)), (5, .inl fr), (4, .inl 4294967295), (3, .inl 1000000000), (0, .inr (.inr (.inl (some 144)))), (1, .inl fr), (2, .inl (fr + k))], [.inl 1000000000, .inl (lkC k 0)], t, n, 0)) rfl (fun _ => rfl) rfl ?_
    refine ex_cmp2 (r := false) rfl (en_rel_f (by omega) (by omega) (rp_ge_f (by omega))) rfl ?_
    show en_ex _ _ _ _ (54, [(6, .inl (lkC k 0)), (5, .inl fr), (4, .inl 4294967295), (3, .inl 1000000000), (0, .inr (.inr (.inl (some 144)))), (1, .inl fr), (2, .inl (fr + k))], [], t, n, 0) _
    refine ex_go (S := (56, [(6, .inl (lkC k 0)), (5, .inl fr), (4, .inl 4294967295), (3, .inl 1000000000), (0, .inr (.inr (.inl (some 144)))), (1, .inl fr), (2, .inl (fr + k))], [.inl (lkC k 0)], t, n, 0)) rfl (fun _ => rfl) rfl ?_
    refine ex_go (S := (57, [(3, .inl (lkC k 0)), (6, .inl (lkC k 0)), (5, .inl fr), (4, .inl 4294967295), (0, .inr (.inr (.inl (some 144)))), (1, .inl fr), (2, .inl (fr + k))], [], t, n, 0)) rfl (fun _ => rfl) rfl ?_
    refine ex_go (S := (59, [(3, .inl (lkC k 0)), (6, .inl (lkC k 0)), (5, .inl fr), (4, .inl 4294967295), (0, .inr (.inr (.inl (some 144)))), (1, .inl fr), (2, .inl (fr + k))], [.inl fr], t, n, 0)) rfl (fun _ => rfl) rfl ?_
    refine ex_go (S := (61, [(4, .inl fr), (3, .inl (lkC k 0)), (6, .inl (lkC k 0)), (5, .inl fr), (0, .inr (.inr (.inl (some 144)))), (1, .inl fr), (2, .inl (fr + k))], [], t, n, 0)) rfl (fun _ => rfl) rfl ?_
    refine ex_go (S := (64, [(5, .inl (en_wrap (fr + 1))), (4, .inl fr), (3, .inl (lkC k 0)), (6, .inl (lkC k 0)), (0, .inr (.inr (.inl (some 144)))), (1, .inl fr), (2, .inl (fr + k))], [], t, n, 0)) rfl (fun _ => rfl) rfl ?_
    rw [show en_wrap (fr + 1) = fr + (0 + 1) from (by unfold en_wrap; rw [Nat.mod_eq_of_lt (by omega)]; try omega)]
    refine ex_go (S := (9, [(5, .inl (fr + (0 + 1))), (4, .inl fr), (3, .inl (lkC k 0)), (6, .inl (lkC k 0)), (0, .inr (.inr (.inl (some 144)))), (1, .inl fr), (2, .inl (fr + k))], [], t, n, 0)) rfl (fun _ => rfl) rfl ?_
    refine ex_imp (fun o ho => ?_) fin
    obtain ⟨L9, t2, q1, q2, q3⟩ := ho
    exact ⟨_, q2, fr, k, L9, t2, rfl, q1, rfl, q3⟩
  obtain ⟨r, e1, fr9, k9, L9, t2, q1, q2, rfl, q3⟩ := en_fs_at (fb := fb) (as := [.inr (.inr (.inl (some 144))), .inl fr, .inl (fr + k)]) rfl key
  obtain ⟨e3, e4⟩ : fr = fr9 ∧ fr + k = fr9 + k9 := by simpa using q1
  subst e3
  have e5 : k = k9 := by omega
  subst e5
  exact ⟨L9, t2, q2, e1, q3⟩
end ENT
