section SVA
variable {oc : Option (List en_V)} {f : en_F} {code : Nat → Option en_I} {stop : Nat → Bool} {P : en_O → Prop}
variable {pc nx : Nat} {ls : en_L} {st : List en_V} {t : en_H} {n sl : Nat}
theorem gx_2r {c : ClassFile.Cond} {j : Int} {x1 x2 x y : Nat} (hc : code pc = some (.if_icmp c j, nx, x1, x2)) (hx : x < 4294967296) (hy : y < 4294967296) (hp : stop x1 = false) (hp2 : stop nx = false) (h : en_rel c (.inl x) (.inl y) = some true → en_ex oc f code stop (x1, ls, st, t, n, sl) P) (h2 : ¬ en_rel c (.inl x) (.inl y) = some true → en_ex oc f code stop (nx, ls, st, t, n, sl) P) : en_ex oc f code stop (pc, ls, .inl y :: .inl x :: st, t, n, sl) P := by
  obtain ⟨b, hb, -⟩ := ai_rel_ok (c := c) (gx_infull hx) (gx_infull hy)
  cases b
  · exact ex_cmp2 (r := false) hc hb hp2 (h2 (by rw [hb]; exact fun z => by cases z))
  · exact ex_cmp2 (r := true) hc hb hp (h hb)
theorem gx_1r {c : ClassFile.Cond} {j : Int} {x1 x2 x : Nat} (hc : code pc = some (.ifCond c j, nx, x1, x2)) (hx : x < 4294967296) (hp : stop x1 = false) (hp2 : stop nx = false) (h : en_rel c (.inl x) (.inl 0) = some true → en_ex oc f code stop (x1, ls, st, t, n, sl) P) (h2 : ¬ en_rel c (.inl x) (.inl 0) = some true → en_ex oc f code stop (nx, ls, st, t, n, sl) P) : en_ex oc f code stop (pc, ls, .inl x :: st, t, n, sl) P := by
  obtain ⟨b, hb, -⟩ := ai_rel_ok (c := c) (gx_infull hx) (gx_infull (x := 0) (by decide))
  cases b
  · exact ex_cmp1 (r := false) hc hb hp2 (h2 (by rw [hb]; exact fun z => by cases z))
  · exact ex_cmp1 (r := true) hc hb hp (h hb)
theorem gx_iaddx {x1 x2 a b : Nat} (hc : code pc = some (.iadd, nx, x1, x2)) (hp : stop nx = false) (h : en_ex oc f code stop (nx, ls, .inl (en_wrap (a + b)) :: st, t, n, sl) P) : en_ex oc f code stop (pc, ls, .inl b :: .inl a :: st, t, n, sl) P := ex_go (S := (nx, ls, .inl (en_wrap (a + b)) :: st, t, n, sl)) hc (fun _ => rfl) hp h
theorem gx_isubx {x1 x2 a b : Nat} (hc : code pc = some (.isub, nx, x1, x2)) (hp : stop nx = false) (h : en_ex oc f code stop (nx, ls, .inl (nI a - nI b).toBitVec.toNat :: st, t, n, sl) P) : en_ex oc f code stop (pc, ls, .inl b :: .inl a :: st, t, n, sl) P := ex_go (S := (nx, ls, .inl (nI a - nI b).toBitVec.toNat :: st, t, n, sl)) hc (fun _ => rfl) hp h
theorem gx_imulx {x1 x2 a b : Nat} (hc : code pc = some (.imul, nx, x1, x2)) (hp : stop nx = false) (h : en_ex oc f code stop (nx, ls, .inl (en_wrap (a * b)) :: st, t, n, sl) P) : en_ex oc f code stop (pc, ls, .inl b :: .inl a :: st, t, n, sl) P := ex_go (S := (nx, ls, .inl (en_wrap (a * b)) :: st, t, n, sl)) hc (fun _ => rfl) hp h
theorem gx_swd {df lo hi : Int} {os : Array Int} {x1 x2 x tg : Nat} (hc : code pc = some (.tableswitch df lo hi os, nx, x1, x2)) (hx : x < 2147483648) (hhi : hi < 0) (htg : (pc : Int) + df = (tg : Int)) (hp : stop tg = false) (h : en_ex oc f code stop (tg, ls, st, t, n, sl) P) : en_ex oc f code stop (pc, ls, .inl x :: st, t, n, sl) P := by
  refine ex_go (S := (tg, ls, st, t, n, sl)) hc (fun k => ?_) hp h
  show en_switch pc df lo hi os ls (.inl x :: st) t n sl k = _
  unfold en_switch
  dsimp only
  rw [en_bnd_nn hx]
  dsimp only
  rw [if_pos (by first | decide | omega), if_pos (by first | decide | omega), htg]
  rfl
theorem zk_minn {a b : Nat} (ha : a < 2147483648) (h1 : 2147483648 ≤ b) (h2 : b < 4294967296) : en_imin a b = some b := by
  unfold en_imin
  rw [if_pos (by rw [ai_lt_off, ai_off_nn ha]; unfold ai_off; omega), ai_tn b h2]
/-- what an operator makes of two -/
noncomputable def vb (o a b : Nat) : Nat := if o = 4 then en_wrap (a + b) else if o = 5 then (nI a - nI b).toBitVec.toNat else if o = 6 then en_wrap (a * b) else if o = 7 then cif (en_rel .ge (.inl a) (.inl b) = some true) 0 1 else if o = 8 then cif (en_rel .ne (.inl a) (.inl b) = some true) 0 1 else if o = 9 then cif (en_rel .eq (.inl a) (.inl 0) = some true) 0 (cif (en_rel .eq (.inl b) (.inl 0) = some true) 0 1) else cif (en_rel .ne (.inl a) (.inl 0) = some true) 1 (cif (en_rel .eq (.inl b) (.inl 0) = some true) 0 1)
noncomputable def vnot (a : Nat) : Nat := cif (en_rel .ne (.inl a) (.inl 0) = some true) 0 1
theorem cif_lt {Q : Prop} {a b k : Nat} (h1 : a < k) (h2 : b < k) : cif Q a b < k := by
  by_cases c : Q
  · rw [cif_t c]; exact h1
  · rw [cif_f c]; exact h2
theorem vb_lt {o a b : Nat} : vb o a b < 4294967296 := by
  unfold vb
  by_cases c4 : o = 4
  · rw [if_pos c4]; unfold en_wrap; omega
  rw [if_neg c4]
  by_cases c5 : o = 5
  · rw [if_pos c5]; exact (nI a - nI b).toBitVec.isLt
  rw [if_neg c5]
  by_cases c6 : o = 6
  · rw [if_pos c6]; unfold en_wrap; omega
  rw [if_neg c6]
  by_cases c7 : o = 7
  · rw [if_pos c7]; exact cif_lt (by decide) (by decide)
  rw [if_neg c7]
  by_cases c8 : o = 8
  · rw [if_pos c8]; exact cif_lt (by decide) (by decide)
  rw [if_neg c8]
  by_cases c9 : o = 9
  · rw [if_pos c9]; exact cif_lt (by decide) (cif_lt (by decide) (by decide))
  rw [if_neg c9]
  exact cif_lt (by decide) (cif_lt (by decide) (by decide))
theorem vb_4 {a b : Nat} : vb 4 a b = en_wrap (a + b) := by unfold vb; rw [if_pos rfl]
theorem vb_5 {a b : Nat} : vb 5 a b = (nI a - nI b).toBitVec.toNat := by unfold vb; rw [if_neg (by decide), if_pos rfl]
theorem vb_6 {a b : Nat} : vb 6 a b = en_wrap (a * b) := by unfold vb; rw [if_neg (by decide), if_neg (by decide), if_pos rfl]
theorem vb_7 {a b : Nat} : vb 7 a b = cif (en_rel .ge (.inl a) (.inl b) = some true) 0 1 := by unfold vb; rw [if_neg (by decide), if_neg (by decide), if_neg (by decide), if_pos rfl]
theorem vb_8 {a b : Nat} : vb 8 a b = cif (en_rel .ne (.inl a) (.inl b) = some true) 0 1 := by unfold vb; rw [if_neg (by decide), if_neg (by decide), if_neg (by decide), if_neg (by decide), if_pos rfl]
theorem vb_9 {a b : Nat} : vb 9 a b = cif (en_rel .eq (.inl a) (.inl 0) = some true) 0 (cif (en_rel .eq (.inl b) (.inl 0) = some true) 0 1) := by unfold vb; rw [if_neg (by decide), if_neg (by decide), if_neg (by decide), if_neg (by decide), if_neg (by decide), if_pos rfl]
theorem vb_10 {a b : Nat} : vb 10 a b = cif (en_rel .ne (.inl a) (.inl 0) = some true) 1 (cif (en_rel .eq (.inl b) (.inl 0) = some true) 0 1) := by unfold vb; rw [if_neg (by decide), if_neg (by decide), if_neg (by decide), if_neg (by decide), if_neg (by decide), if_neg (by decide)]
theorem vnot_lt {a : Nat} : vnot a < 4294967296 := cif_lt (by decide) (by decide)
/-- a part's worth: men, time, out -/
noncomputable def vpt (me ti ou z : Nat) : Nat := if z = 4294967287 then me else if z = 4294967286 then ti else if z = 4294967285 then ou else z
noncomputable def vs (me ti ou z : Nat) (q : List Nat) : List Nat := if vk z = 0 then vpt me ti ou z :: q else if vk z = 1 then (match q with | x :: r => vnot x :: r | [] => []) else (match q with | y :: x :: r => vb (opm z) x y :: r | _ => [])
noncomputable def vrun (me ti ou : Nat) : List Nat → List Nat → List Nat
  | [], q => q
  | z :: L, q => vrun me ti ou L (vs me ti ou z q)
/-- a pile in the cell c: its top first -/
noncomputable def stk (t : en_H) (c : Nat) : List Nat → Prop
  | [] => True
  | x :: r => ai_hv t c r.length = some (.inl x) ∧ x < 4294967296 ∧ stk t c r
theorem stk_keep {t t' : en_H} {c : Nat} : ∀ {q : List Nat}, stk t c q → (∀ i, i < q.length → ai_hv t' c i = ai_hv t c i) → stk t' c q
  | [], _, _ => trivial
  | x :: r, h, e => ⟨(e _ (Nat.lt_succ_self _)).trans h.1, h.2.1, stk_keep h.2.2 (fun i hi => e i (Nat.lt_succ_of_lt hi))⟩
/-- the codes that are told, from i on: the reference's, the class's -/
noncomputable def rco (t : en_H) (fh : Nat) : Nat → List Nat → Prop
  | i, [] => ai_hv t 390 i = some (.inl 0)
  | i, z :: L => ai_hv t 390 i = some (.inl (opm z)) ∧ ai_hv t 391 i = some (.inl (argm fh z)) ∧ rco t fh (i + 1) L
noncomputable def cco (t : en_H) (LC : Nat) : Nat → List Nat → Prop
  | _, [] => True
  | i, z :: L => ai_hv t (LC + 2) i = some (.inl z) ∧ cco t LC (i + 1) L
theorem rco_of {t : en_H} {fh : Nat} : ∀ {L : List Nat} {i : Nat}, (∀ j, j < L.length → ai_hv t 390 (i + j) = some (.inl (opm ((L[j]?).getD 0))) ∧ ai_hv t 391 (i + j) = some (.inl (argm fh ((L[j]?).getD 0)))) → ai_hv t 390 (i + L.length) = some (.inl 0) → rco t fh i L
  | [], i, _, h => h
  | z :: L, i, h, h0 => ⟨(h 0 (Nat.succ_pos _)).1, (h 0 (Nat.succ_pos _)).2, rco_of (fun j hj => by
      have h9 := h (j + 1) (Nat.succ_lt_succ hj)
      rw [show i + (j + 1) = i + 1 + j by omega] at h9
      exact h9) (by
      rw [show i + 1 + L.length = i + (z :: L).length by rw [List.length_cons]; omega]
      exact h0)⟩
theorem cco_of {t : en_H} {LC : Nat} : ∀ {L : List Nat} {i : Nat}, (∀ j, j < L.length → ai_hv t (LC + 2) (i + j) = some (.inl ((L[j]?).getD 0))) → cco t LC i L
  | [], _, _ => trivial
  | z :: L, i, h => ⟨h 0 (Nat.succ_pos _), cco_of (fun j hj => by
      have h9 := h (j + 1) (Nat.succ_lt_succ hj)
      rw [show i + (j + 1) = i + 1 + j by omega] at h9
      exact h9)⟩
theorem rco_keep {t t' : en_H} {fh : Nat} (e : ∀ c i, c = 390 ∨ c = 391 → ai_hv t' c i = ai_hv t c i) : ∀ {L : List Nat} {i : Nat}, rco t fh i L → rco t' fh i L
  | [], i, h => (e _ _ (Or.inl rfl)).trans h
  | z :: L, i, h => ⟨(e _ _ (Or.inl rfl)).trans h.1, (e _ _ (Or.inr rfl)).trans h.2.1, rco_keep e h.2.2⟩
theorem cco_keep {t t' : en_H} {LC : Nat} (e : ∀ i, ai_hv t' (LC + 2) i = ai_hv t (LC + 2) i) : ∀ {L : List Nat} {i : Nat}, cco t LC i L → cco t' LC i L
  | [], _, _ => trivial
  | z :: L, i, h => ⟨(e _).trans h.1, cco_keep e h.2⟩
theorem vo_bin {z : Nat} (h : vk z ≠ 0) (h1 : vk z ≠ 1) : 4 ≤ opm z ∧ opm z ≤ 10 := by
  unfold vk at h h1
  by_cases c : z = 4294967295
  · rw [if_pos c] at h1; exact absurd rfl h1
  rw [if_neg c] at h h1
  by_cases c2 : 4294967288 ≤ z ∧ z < 4294967295
  · rcases (show z = 4294967288 ∨ z = 4294967289 ∨ z = 4294967290 ∨ z = 4294967291 ∨ z = 4294967292 ∨ z = 4294967293 ∨ z = 4294967294 by omega) with e | e | e | e | e | e | e <;> rw [e] <;> decide
  · rw [if_neg c2] at h; exact absurd rfl h
theorem vo_cd {z : Nat} (h : vk z ≠ 0) (h1 : vk z ≠ 1) : 4294967288 ≤ z ∧ z < 4294967295 := by
  unfold vk at h h1
  by_cases c : z = 4294967295
  · rw [if_pos c] at h1; exact absurd rfl h1
  rw [if_neg c] at h h1
  by_cases c2 : 4294967288 ≤ z ∧ z < 4294967295
  · exact c2
  · rw [if_neg c2] at h; exact absurd rfl h
theorem vk_1 {z : Nat} (h : vk z = 1) : z = 4294967295 := by
  unfold vk at h
  by_cases c : z = 4294967295
  · exact c
  rw [if_neg c] at h
  by_cases c2 : 4294967288 ≤ z ∧ z < 4294967295
  · rw [if_pos c2] at h; omega
  · rw [if_neg c2] at h; omega
theorem vk_nn {z : Nat} (h : vk z = 0) (hv : vo 7 z ∨ ∃ fh, vo fh z) : z < 2147483648 ∨ z = 4294967286 ∨ z = 4294967287 ∨ z = 4294967285 := by
  rcases hv with hv | ⟨fh, hv⟩ <;> rcases hv with hv | hv | hv | hv <;> first | exact absurd h hv.1 | omega
theorem pe_both (d n : Nat) {t0 : en_H} {o x y : Nat} (ho : 4 ≤ o ∧ o ≤ 10) (hx : x < 4294967296) (hy : y < 4294967296) : en_u (d + 1) 276 [.inl o, .inl x, .inl y] t0 n = some (some (.inl (vb o x y)), t0, n, 0) := by
  have h9 : ∃ r, en_u (d + 1) 276 [.inl o, .inl x, .inl y] t0 n = some r ∧ r = (some (.inl (vb o x y)), t0, n, 0) := by
    refine en_u_ex rfl ?_
    show en_ex _ _ _ _ (0, [(0, .inl o), (1, .inl x), (2, .inl y)], [], t0, n, 0) _
    rcases (show o = 4 ∨ o = 5 ∨ o = 6 ∨ o = 7 ∨ o = 8 ∨ o = 9 ∨ o = 10 by omega) with rfl | rfl | rfl | rfl | rfl | rfl | rfl
    · refine ex_go (S := (1, [(0, .inl 4), (1, .inl x), (2, .inl y)], [.inl 4], t0, n, 0)) rfl (fun _ => rfl) rfl ?_
      refine ex_go (S := (40, [(0, .inl 4), (1, .inl x), (2, .inl y)], [], t0, n, 0)) rfl (fun _ => rfl) rfl ?_
      refine ex_go (S := (41, [(0, .inl 4), (1, .inl x), (2, .inl y)], [.inl x], t0, n, 0)) rfl (fun _ => rfl) rfl ?_
      refine ex_go (S := (42, [(0, .inl 4), (1, .inl x), (2, .inl y)], [.inl y, .inl x], t0, n, 0)) rfl (fun _ => rfl) rfl ?_
      refine gx_iaddx rfl rfl ?_
      refine ex_ret (r := (some (.inl (en_wrap (x + y))), t0, n, 0)) rfl (fun _ => rfl) ?_
      refine ⟨_, rfl, ?_⟩
      rw [vb_4]
    · refine ex_go (S := (1, [(0, .inl 5), (1, .inl x), (2, .inl y)], [.inl 5], t0, n, 0)) rfl (fun _ => rfl) rfl ?_
      refine ex_go (S := (44, [(0, .inl 5), (1, .inl x), (2, .inl y)], [], t0, n, 0)) rfl (fun _ => rfl) rfl ?_
      refine ex_go (S := (45, [(0, .inl 5), (1, .inl x), (2, .inl y)], [.inl x], t0, n, 0)) rfl (fun _ => rfl) rfl ?_
      refine ex_go (S := (46, [(0, .inl 5), (1, .inl x), (2, .inl y)], [.inl y, .inl x], t0, n, 0)) rfl (fun _ => rfl) rfl ?_
      refine gx_isubx rfl rfl ?_
      refine ex_ret (r := (some (.inl ((nI x - nI y).toBitVec.toNat)), t0, n, 0)) rfl (fun _ => rfl) ?_
      refine ⟨_, rfl, ?_⟩
      rw [vb_5]
    · refine ex_go (S := (1, [(0, .inl 6), (1, .inl x), (2, .inl y)], [.inl 6], t0, n, 0)) rfl (fun _ => rfl) rfl ?_
      refine ex_go (S := (48, [(0, .inl 6), (1, .inl x), (2, .inl y)], [], t0, n, 0)) rfl (fun _ => rfl) rfl ?_
      refine ex_go (S := (49, [(0, .inl 6), (1, .inl x), (2, .inl y)], [.inl x], t0, n, 0)) rfl (fun _ => rfl) rfl ?_
      refine ex_go (S := (50, [(0, .inl 6), (1, .inl x), (2, .inl y)], [.inl y, .inl x], t0, n, 0)) rfl (fun _ => rfl) rfl ?_
      refine gx_imulx rfl rfl ?_
      refine ex_ret (r := (some (.inl (en_wrap (x * y))), t0, n, 0)) rfl (fun _ => rfl) ?_
      refine ⟨_, rfl, ?_⟩
      rw [vb_6]
    · refine ex_go (S := (1, [(0, .inl 7), (1, .inl x), (2, .inl y)], [.inl 7], t0, n, 0)) rfl (fun _ => rfl) rfl ?_
      refine ex_go (S := (52, [(0, .inl 7), (1, .inl x), (2, .inl y)], [], t0, n, 0)) rfl (fun _ => rfl) rfl ?_
      refine ex_go (S := (53, [(0, .inl 7), (1, .inl x), (2, .inl y)], [.inl x], t0, n, 0)) rfl (fun _ => rfl) rfl ?_
      refine ex_go (S := (54, [(0, .inl 7), (1, .inl x), (2, .inl y)], [.inl y, .inl x], t0, n, 0)) rfl (fun _ => rfl) rfl ?_
      refine gx_2r (c := .ge) rfl (by first | decide | omega) (by first | decide | omega) rfl rfl (fun hr1 => ?_) (fun hr1 => ?_)
      · show en_ex _ _ _ _ (61, [(0, .inl 7), (1, .inl x), (2, .inl y)], [], t0, n, 0) _
        refine ex_go (S := (62, [(0, .inl 7), (1, .inl x), (2, .inl y)], [.inl 0], t0, n, 0)) rfl (fun _ => rfl) rfl ?_
        refine ex_ret (r := (some (.inl 0), t0, n, 0)) rfl (fun _ => rfl) ?_
        refine ⟨_, rfl, ?_⟩
        rw [vb_7, cif_t hr1]
      · show en_ex _ _ _ _ (57, [(0, .inl 7), (1, .inl x), (2, .inl y)], [], t0, n, 0) _
        refine ex_go (S := (58, [(0, .inl 7), (1, .inl x), (2, .inl y)], [.inl 1], t0, n, 0)) rfl (fun _ => rfl) rfl ?_
        refine ex_go (S := (62, [(0, .inl 7), (1, .inl x), (2, .inl y)], [.inl 1], t0, n, 0)) rfl (fun _ => rfl) rfl ?_
        refine ex_ret (r := (some (.inl 1), t0, n, 0)) rfl (fun _ => rfl) ?_
        refine ⟨_, rfl, ?_⟩
        rw [vb_7, cif_f hr1]
    · refine ex_go (S := (1, [(0, .inl 8), (1, .inl x), (2, .inl y)], [.inl 8], t0, n, 0)) rfl (fun _ => rfl) rfl ?_
      refine ex_go (S := (63, [(0, .inl 8), (1, .inl x), (2, .inl y)], [], t0, n, 0)) rfl (fun _ => rfl) rfl ?_
      refine ex_go (S := (64, [(0, .inl 8), (1, .inl x), (2, .inl y)], [.inl x], t0, n, 0)) rfl (fun _ => rfl) rfl ?_
      refine ex_go (S := (65, [(0, .inl 8), (1, .inl x), (2, .inl y)], [.inl y, .inl x], t0, n, 0)) rfl (fun _ => rfl) rfl ?_
      refine gx_2r (c := .ne) rfl (by first | decide | omega) (by first | decide | omega) rfl rfl (fun hr1 => ?_) (fun hr1 => ?_)
      · show en_ex _ _ _ _ (72, [(0, .inl 8), (1, .inl x), (2, .inl y)], [], t0, n, 0) _
        refine ex_go (S := (73, [(0, .inl 8), (1, .inl x), (2, .inl y)], [.inl 0], t0, n, 0)) rfl (fun _ => rfl) rfl ?_
        refine ex_ret (r := (some (.inl 0), t0, n, 0)) rfl (fun _ => rfl) ?_
        refine ⟨_, rfl, ?_⟩
        rw [vb_8, cif_t hr1]
      · show en_ex _ _ _ _ (68, [(0, .inl 8), (1, .inl x), (2, .inl y)], [], t0, n, 0) _
        refine ex_go (S := (69, [(0, .inl 8), (1, .inl x), (2, .inl y)], [.inl 1], t0, n, 0)) rfl (fun _ => rfl) rfl ?_
        refine ex_go (S := (73, [(0, .inl 8), (1, .inl x), (2, .inl y)], [.inl 1], t0, n, 0)) rfl (fun _ => rfl) rfl ?_
        refine ex_ret (r := (some (.inl 1), t0, n, 0)) rfl (fun _ => rfl) ?_
        refine ⟨_, rfl, ?_⟩
        rw [vb_8, cif_f hr1]
    · refine ex_go (S := (1, [(0, .inl 9), (1, .inl x), (2, .inl y)], [.inl 9], t0, n, 0)) rfl (fun _ => rfl) rfl ?_
      refine ex_go (S := (74, [(0, .inl 9), (1, .inl x), (2, .inl y)], [], t0, n, 0)) rfl (fun _ => rfl) rfl ?_
      refine ex_go (S := (75, [(0, .inl 9), (1, .inl x), (2, .inl y)], [.inl x], t0, n, 0)) rfl (fun _ => rfl) rfl ?_
      refine gx_1r (c := .eq) rfl (by first | decide | omega) rfl rfl (fun hr1 => ?_) (fun hr1 => ?_)
      · show en_ex _ _ _ _ (86, [(0, .inl 9), (1, .inl x), (2, .inl y)], [], t0, n, 0) _
        refine ex_go (S := (87, [(0, .inl 9), (1, .inl x), (2, .inl y)], [.inl 0], t0, n, 0)) rfl (fun _ => rfl) rfl ?_
        refine ex_ret (r := (some (.inl 0), t0, n, 0)) rfl (fun _ => rfl) ?_
        refine ⟨_, rfl, ?_⟩
        rw [vb_9, cif_t hr1]
      · show en_ex _ _ _ _ (78, [(0, .inl 9), (1, .inl x), (2, .inl y)], [], t0, n, 0) _
        refine ex_go (S := (79, [(0, .inl 9), (1, .inl x), (2, .inl y)], [.inl y], t0, n, 0)) rfl (fun _ => rfl) rfl ?_
        refine gx_1r (c := .eq) rfl (by first | decide | omega) rfl rfl (fun hr2 => ?_) (fun hr2 => ?_)
        · show en_ex _ _ _ _ (86, [(0, .inl 9), (1, .inl x), (2, .inl y)], [], t0, n, 0) _
          refine ex_go (S := (87, [(0, .inl 9), (1, .inl x), (2, .inl y)], [.inl 0], t0, n, 0)) rfl (fun _ => rfl) rfl ?_
          refine ex_ret (r := (some (.inl 0), t0, n, 0)) rfl (fun _ => rfl) ?_
          refine ⟨_, rfl, ?_⟩
          rw [vb_9, cif_f hr1, cif_t hr2]
        · show en_ex _ _ _ _ (82, [(0, .inl 9), (1, .inl x), (2, .inl y)], [], t0, n, 0) _
          refine ex_go (S := (83, [(0, .inl 9), (1, .inl x), (2, .inl y)], [.inl 1], t0, n, 0)) rfl (fun _ => rfl) rfl ?_
          refine ex_go (S := (87, [(0, .inl 9), (1, .inl x), (2, .inl y)], [.inl 1], t0, n, 0)) rfl (fun _ => rfl) rfl ?_
          refine ex_ret (r := (some (.inl 1), t0, n, 0)) rfl (fun _ => rfl) ?_
          refine ⟨_, rfl, ?_⟩
          rw [vb_9, cif_f hr1, cif_f hr2]
    · refine ex_go (S := (1, [(0, .inl 10), (1, .inl x), (2, .inl y)], [.inl 10], t0, n, 0)) rfl (fun _ => rfl) rfl ?_
      refine ex_go (S := (88, [(0, .inl 10), (1, .inl x), (2, .inl y)], [], t0, n, 0)) rfl (fun _ => rfl) rfl ?_
      refine ex_go (S := (89, [(0, .inl 10), (1, .inl x), (2, .inl y)], [.inl x], t0, n, 0)) rfl (fun _ => rfl) rfl ?_
      refine gx_1r (c := .ne) rfl (by first | decide | omega) rfl rfl (fun hr1 => ?_) (fun hr1 => ?_)
      · show en_ex _ _ _ _ (96, [(0, .inl 10), (1, .inl x), (2, .inl y)], [], t0, n, 0) _
        refine ex_go (S := (97, [(0, .inl 10), (1, .inl x), (2, .inl y)], [.inl 1], t0, n, 0)) rfl (fun _ => rfl) rfl ?_
        refine ex_go (S := (101, [(0, .inl 10), (1, .inl x), (2, .inl y)], [.inl 1], t0, n, 0)) rfl (fun _ => rfl) rfl ?_
        refine ex_ret (r := (some (.inl 1), t0, n, 0)) rfl (fun _ => rfl) ?_
        refine ⟨_, rfl, ?_⟩
        rw [vb_10, cif_t hr1]
      · show en_ex _ _ _ _ (92, [(0, .inl 10), (1, .inl x), (2, .inl y)], [], t0, n, 0) _
        refine ex_go (S := (93, [(0, .inl 10), (1, .inl x), (2, .inl y)], [.inl y], t0, n, 0)) rfl (fun _ => rfl) rfl ?_
        refine gx_1r (c := .eq) rfl (by first | decide | omega) rfl rfl (fun hr2 => ?_) (fun hr2 => ?_)
        · show en_ex _ _ _ _ (100, [(0, .inl 10), (1, .inl x), (2, .inl y)], [], t0, n, 0) _
          refine ex_go (S := (101, [(0, .inl 10), (1, .inl x), (2, .inl y)], [.inl 0], t0, n, 0)) rfl (fun _ => rfl) rfl ?_
          refine ex_ret (r := (some (.inl 0), t0, n, 0)) rfl (fun _ => rfl) ?_
          refine ⟨_, rfl, ?_⟩
          rw [vb_10, cif_f hr1, cif_t hr2]
        · show en_ex _ _ _ _ (96, [(0, .inl 10), (1, .inl x), (2, .inl y)], [], t0, n, 0) _
          refine ex_go (S := (97, [(0, .inl 10), (1, .inl x), (2, .inl y)], [.inl 1], t0, n, 0)) rfl (fun _ => rfl) rfl ?_
          refine ex_go (S := (101, [(0, .inl 10), (1, .inl x), (2, .inl y)], [.inl 1], t0, n, 0)) rfl (fun _ => rfl) rfl ?_
          refine ex_ret (r := (some (.inl 1), t0, n, 0)) rfl (fun _ => rfl) ?_
          refine ⟨_, rfl, ?_⟩
          rw [vb_10, cif_f hr1, cif_f hr2]
  obtain ⟨_, h8, rfl⟩ := h9
  exact h8
theorem pc_joined (d n : Nat) {t0 : en_H} {z x y : Nat} (hz : 4294967288 ≤ z ∧ z < 4294967295) (hx : x < 4294967296) (hy : y < 4294967296) : en_u (d + 1) 253 [.inl z, .inl x, .inl y] t0 n = some (some (.inl (vb (opm z) x y)), t0, n, 0) := by
  have h9 : ∃ r, en_u (d + 1) 253 [.inl z, .inl x, .inl y] t0 n = some r ∧ r = (some (.inl (vb (opm z) x y)), t0, n, 0) := by
    refine en_u_ex rfl ?_
    show en_ex _ _ _ _ (0, [(0, .inl z), (1, .inl x), (2, .inl y)], [], t0, n, 0) _
    rcases (show z = 4294967290 ∨ z = 4294967289 ∨ z = 4294967288 ∨ z = 4294967292 ∨ z = 4294967291 ∨ z = 4294967294 ∨ z = 4294967293 by omega) with rfl | rfl | rfl | rfl | rfl | rfl | rfl
    · refine ex_go (S := (1, [(0, .inl 4294967290), (1, .inl x), (2, .inl y)], [.inl 4294967290], t0, n, 0)) rfl (fun _ => rfl) rfl ?_
      refine ex_go (S := (90, [(0, .inl 4294967290), (1, .inl x), (2, .inl y)], [], t0, n, 0)) rfl (fun _ => rfl) rfl ?_
      refine ex_go (S := (91, [(0, .inl 4294967290), (1, .inl x), (2, .inl y)], [.inl x], t0, n, 0)) rfl (fun _ => rfl) rfl ?_
      refine ex_go (S := (92, [(0, .inl 4294967290), (1, .inl x), (2, .inl y)], [.inl y, .inl x], t0, n, 0)) rfl (fun _ => rfl) rfl ?_
      refine gx_iaddx rfl rfl ?_
      refine ex_ret (r := (some (.inl (en_wrap (x + y))), t0, n, 0)) rfl (fun _ => rfl) ?_
      refine ⟨_, rfl, ?_⟩
      rw [show opm 4294967290 = 4 by decide]
      rw [vb_4]
    · refine ex_go (S := (1, [(0, .inl 4294967289), (1, .inl x), (2, .inl y)], [.inl 4294967289], t0, n, 0)) rfl (fun _ => rfl) rfl ?_
      refine ex_go (S := (94, [(0, .inl 4294967289), (1, .inl x), (2, .inl y)], [], t0, n, 0)) rfl (fun _ => rfl) rfl ?_
      refine ex_go (S := (95, [(0, .inl 4294967289), (1, .inl x), (2, .inl y)], [.inl x], t0, n, 0)) rfl (fun _ => rfl) rfl ?_
      refine ex_go (S := (96, [(0, .inl 4294967289), (1, .inl x), (2, .inl y)], [.inl y, .inl x], t0, n, 0)) rfl (fun _ => rfl) rfl ?_
      refine gx_isubx rfl rfl ?_
      refine ex_ret (r := (some (.inl ((nI x - nI y).toBitVec.toNat)), t0, n, 0)) rfl (fun _ => rfl) ?_
      refine ⟨_, rfl, ?_⟩
      rw [show opm 4294967289 = 5 by decide]
      rw [vb_5]
    · refine ex_go (S := (1, [(0, .inl 4294967288), (1, .inl x), (2, .inl y)], [.inl 4294967288], t0, n, 0)) rfl (fun _ => rfl) rfl ?_
      refine ex_go (S := (98, [(0, .inl 4294967288), (1, .inl x), (2, .inl y)], [], t0, n, 0)) rfl (fun _ => rfl) rfl ?_
      refine ex_go (S := (99, [(0, .inl 4294967288), (1, .inl x), (2, .inl y)], [.inl x], t0, n, 0)) rfl (fun _ => rfl) rfl ?_
      refine ex_go (S := (100, [(0, .inl 4294967288), (1, .inl x), (2, .inl y)], [.inl y, .inl x], t0, n, 0)) rfl (fun _ => rfl) rfl ?_
      refine gx_imulx rfl rfl ?_
      refine ex_ret (r := (some (.inl (en_wrap (x * y))), t0, n, 0)) rfl (fun _ => rfl) ?_
      refine ⟨_, rfl, ?_⟩
      rw [show opm 4294967288 = 6 by decide]
      rw [vb_6]
    · refine ex_go (S := (1, [(0, .inl 4294967292), (1, .inl x), (2, .inl y)], [.inl 4294967292], t0, n, 0)) rfl (fun _ => rfl) rfl ?_
      refine ex_go (S := (68, [(0, .inl 4294967292), (1, .inl x), (2, .inl y)], [], t0, n, 0)) rfl (fun _ => rfl) rfl ?_
      refine ex_go (S := (69, [(0, .inl 4294967292), (1, .inl x), (2, .inl y)], [.inl x], t0, n, 0)) rfl (fun _ => rfl) rfl ?_
      refine ex_go (S := (70, [(0, .inl 4294967292), (1, .inl x), (2, .inl y)], [.inl y, .inl x], t0, n, 0)) rfl (fun _ => rfl) rfl ?_
      refine gx_2r (c := .ge) rfl (by first | decide | omega) (by first | decide | omega) rfl rfl (fun hr1 => ?_) (fun hr1 => ?_)
      · show en_ex _ _ _ _ (77, [(0, .inl 4294967292), (1, .inl x), (2, .inl y)], [], t0, n, 0) _
        refine ex_go (S := (78, [(0, .inl 4294967292), (1, .inl x), (2, .inl y)], [.inl 0], t0, n, 0)) rfl (fun _ => rfl) rfl ?_
        refine ex_ret (r := (some (.inl 0), t0, n, 0)) rfl (fun _ => rfl) ?_
        refine ⟨_, rfl, ?_⟩
        rw [show opm 4294967292 = 7 by decide]
        rw [vb_7, cif_t hr1]
      · show en_ex _ _ _ _ (73, [(0, .inl 4294967292), (1, .inl x), (2, .inl y)], [], t0, n, 0) _
        refine ex_go (S := (74, [(0, .inl 4294967292), (1, .inl x), (2, .inl y)], [.inl 1], t0, n, 0)) rfl (fun _ => rfl) rfl ?_
        refine ex_go (S := (78, [(0, .inl 4294967292), (1, .inl x), (2, .inl y)], [.inl 1], t0, n, 0)) rfl (fun _ => rfl) rfl ?_
        refine ex_ret (r := (some (.inl 1), t0, n, 0)) rfl (fun _ => rfl) ?_
        refine ⟨_, rfl, ?_⟩
        rw [show opm 4294967292 = 7 by decide]
        rw [vb_7, cif_f hr1]
    · refine ex_go (S := (1, [(0, .inl 4294967291), (1, .inl x), (2, .inl y)], [.inl 4294967291], t0, n, 0)) rfl (fun _ => rfl) rfl ?_
      refine ex_go (S := (79, [(0, .inl 4294967291), (1, .inl x), (2, .inl y)], [], t0, n, 0)) rfl (fun _ => rfl) rfl ?_
      refine ex_go (S := (80, [(0, .inl 4294967291), (1, .inl x), (2, .inl y)], [.inl x], t0, n, 0)) rfl (fun _ => rfl) rfl ?_
      refine ex_go (S := (81, [(0, .inl 4294967291), (1, .inl x), (2, .inl y)], [.inl y, .inl x], t0, n, 0)) rfl (fun _ => rfl) rfl ?_
      refine gx_2r (c := .ne) rfl (by first | decide | omega) (by first | decide | omega) rfl rfl (fun hr1 => ?_) (fun hr1 => ?_)
      · show en_ex _ _ _ _ (88, [(0, .inl 4294967291), (1, .inl x), (2, .inl y)], [], t0, n, 0) _
        refine ex_go (S := (89, [(0, .inl 4294967291), (1, .inl x), (2, .inl y)], [.inl 0], t0, n, 0)) rfl (fun _ => rfl) rfl ?_
        refine ex_ret (r := (some (.inl 0), t0, n, 0)) rfl (fun _ => rfl) ?_
        refine ⟨_, rfl, ?_⟩
        rw [show opm 4294967291 = 8 by decide]
        rw [vb_8, cif_t hr1]
      · show en_ex _ _ _ _ (84, [(0, .inl 4294967291), (1, .inl x), (2, .inl y)], [], t0, n, 0) _
        refine ex_go (S := (85, [(0, .inl 4294967291), (1, .inl x), (2, .inl y)], [.inl 1], t0, n, 0)) rfl (fun _ => rfl) rfl ?_
        refine ex_go (S := (89, [(0, .inl 4294967291), (1, .inl x), (2, .inl y)], [.inl 1], t0, n, 0)) rfl (fun _ => rfl) rfl ?_
        refine ex_ret (r := (some (.inl 1), t0, n, 0)) rfl (fun _ => rfl) ?_
        refine ⟨_, rfl, ?_⟩
        rw [show opm 4294967291 = 8 by decide]
        rw [vb_8, cif_f hr1]
    · refine ex_go (S := (1, [(0, .inl 4294967294), (1, .inl x), (2, .inl y)], [.inl 4294967294], t0, n, 0)) rfl (fun _ => rfl) rfl ?_
      refine ex_go (S := (40, [(0, .inl 4294967294), (1, .inl x), (2, .inl y)], [], t0, n, 0)) rfl (fun _ => rfl) rfl ?_
      refine ex_go (S := (41, [(0, .inl 4294967294), (1, .inl x), (2, .inl y)], [.inl x], t0, n, 0)) rfl (fun _ => rfl) rfl ?_
      refine gx_1r (c := .eq) rfl (by first | decide | omega) rfl rfl (fun hr1 => ?_) (fun hr1 => ?_)
      · show en_ex _ _ _ _ (52, [(0, .inl 4294967294), (1, .inl x), (2, .inl y)], [], t0, n, 0) _
        refine ex_go (S := (53, [(0, .inl 4294967294), (1, .inl x), (2, .inl y)], [.inl 0], t0, n, 0)) rfl (fun _ => rfl) rfl ?_
        refine ex_ret (r := (some (.inl 0), t0, n, 0)) rfl (fun _ => rfl) ?_
        refine ⟨_, rfl, ?_⟩
        rw [show opm 4294967294 = 9 by decide]
        rw [vb_9, cif_t hr1]
      · show en_ex _ _ _ _ (44, [(0, .inl 4294967294), (1, .inl x), (2, .inl y)], [], t0, n, 0) _
        refine ex_go (S := (45, [(0, .inl 4294967294), (1, .inl x), (2, .inl y)], [.inl y], t0, n, 0)) rfl (fun _ => rfl) rfl ?_
        refine gx_1r (c := .eq) rfl (by first | decide | omega) rfl rfl (fun hr2 => ?_) (fun hr2 => ?_)
        · show en_ex _ _ _ _ (52, [(0, .inl 4294967294), (1, .inl x), (2, .inl y)], [], t0, n, 0) _
          refine ex_go (S := (53, [(0, .inl 4294967294), (1, .inl x), (2, .inl y)], [.inl 0], t0, n, 0)) rfl (fun _ => rfl) rfl ?_
          refine ex_ret (r := (some (.inl 0), t0, n, 0)) rfl (fun _ => rfl) ?_
          refine ⟨_, rfl, ?_⟩
          rw [show opm 4294967294 = 9 by decide]
          rw [vb_9, cif_f hr1, cif_t hr2]
        · show en_ex _ _ _ _ (48, [(0, .inl 4294967294), (1, .inl x), (2, .inl y)], [], t0, n, 0) _
          refine ex_go (S := (49, [(0, .inl 4294967294), (1, .inl x), (2, .inl y)], [.inl 1], t0, n, 0)) rfl (fun _ => rfl) rfl ?_
          refine ex_go (S := (53, [(0, .inl 4294967294), (1, .inl x), (2, .inl y)], [.inl 1], t0, n, 0)) rfl (fun _ => rfl) rfl ?_
          refine ex_ret (r := (some (.inl 1), t0, n, 0)) rfl (fun _ => rfl) ?_
          refine ⟨_, rfl, ?_⟩
          rw [show opm 4294967294 = 9 by decide]
          rw [vb_9, cif_f hr1, cif_f hr2]
    · refine ex_go (S := (1, [(0, .inl 4294967293), (1, .inl x), (2, .inl y)], [.inl 4294967293], t0, n, 0)) rfl (fun _ => rfl) rfl ?_
      refine ex_go (S := (54, [(0, .inl 4294967293), (1, .inl x), (2, .inl y)], [], t0, n, 0)) rfl (fun _ => rfl) rfl ?_
      refine ex_go (S := (55, [(0, .inl 4294967293), (1, .inl x), (2, .inl y)], [.inl x], t0, n, 0)) rfl (fun _ => rfl) rfl ?_
      refine gx_1r (c := .ne) rfl (by first | decide | omega) rfl rfl (fun hr1 => ?_) (fun hr1 => ?_)
      · show en_ex _ _ _ _ (62, [(0, .inl 4294967293), (1, .inl x), (2, .inl y)], [], t0, n, 0) _
        refine ex_go (S := (63, [(0, .inl 4294967293), (1, .inl x), (2, .inl y)], [.inl 1], t0, n, 0)) rfl (fun _ => rfl) rfl ?_
        refine ex_go (S := (67, [(0, .inl 4294967293), (1, .inl x), (2, .inl y)], [.inl 1], t0, n, 0)) rfl (fun _ => rfl) rfl ?_
        refine ex_ret (r := (some (.inl 1), t0, n, 0)) rfl (fun _ => rfl) ?_
        refine ⟨_, rfl, ?_⟩
        rw [show opm 4294967293 = 10 by decide]
        rw [vb_10, cif_t hr1]
      · show en_ex _ _ _ _ (58, [(0, .inl 4294967293), (1, .inl x), (2, .inl y)], [], t0, n, 0) _
        refine ex_go (S := (59, [(0, .inl 4294967293), (1, .inl x), (2, .inl y)], [.inl y], t0, n, 0)) rfl (fun _ => rfl) rfl ?_
        refine gx_1r (c := .eq) rfl (by first | decide | omega) rfl rfl (fun hr2 => ?_) (fun hr2 => ?_)
        · show en_ex _ _ _ _ (66, [(0, .inl 4294967293), (1, .inl x), (2, .inl y)], [], t0, n, 0) _
          refine ex_go (S := (67, [(0, .inl 4294967293), (1, .inl x), (2, .inl y)], [.inl 0], t0, n, 0)) rfl (fun _ => rfl) rfl ?_
          refine ex_ret (r := (some (.inl 0), t0, n, 0)) rfl (fun _ => rfl) ?_
          refine ⟨_, rfl, ?_⟩
          rw [show opm 4294967293 = 10 by decide]
          rw [vb_10, cif_f hr1, cif_t hr2]
        · show en_ex _ _ _ _ (62, [(0, .inl 4294967293), (1, .inl x), (2, .inl y)], [], t0, n, 0) _
          refine ex_go (S := (63, [(0, .inl 4294967293), (1, .inl x), (2, .inl y)], [.inl 1], t0, n, 0)) rfl (fun _ => rfl) rfl ?_
          refine ex_go (S := (67, [(0, .inl 4294967293), (1, .inl x), (2, .inl y)], [.inl 1], t0, n, 0)) rfl (fun _ => rfl) rfl ?_
          refine ex_ret (r := (some (.inl 1), t0, n, 0)) rfl (fun _ => rfl) ?_
          refine ⟨_, rfl, ?_⟩
          rw [show opm 4294967293 = 10 by decide]
          rw [vb_10, cif_f hr1, cif_f hr2]
  obtain ⟨_, h8, rfl⟩ := h9
  exact h8
theorem vpt_87 {me ti ou : Nat} : vpt me ti ou 4294967287 = me := if_pos rfl
theorem vpt_86 {me ti ou : Nat} : vpt me ti ou 4294967286 = ti := (if_neg (by decide)).trans (if_pos rfl)
theorem vpt_85 {me ti ou : Nat} : vpt me ti ou 4294967285 = ou := (if_neg (by decide)).trans ((if_neg (by decide)).trans (if_pos rfl))
theorem vpt_n {me ti ou z : Nat} (h : z < 2147483648) : vpt me ti ou z = z := by
  unfold vpt
  rw [if_neg (by first | decide | omega), if_neg (by first | decide | omega), if_neg (by first | decide | omega)]
theorem vpt_lt {me ti ou z : Nat} (h1 : me < 4294967296) (h2 : ti < 4294967296) (h3 : ou < 4294967296) (hz : z < 2147483648 ∨ z = 4294967286 ∨ z = 4294967287 ∨ z = 4294967285) : vpt me ti ou z < 4294967296 := by
  rcases hz with hz | rfl | rfl | rfl
  · rw [vpt_n hz]; omega
  · rw [vpt_86]; exact h2
  · rw [vpt_87]; exact h1
  · rw [vpt_85]; exact h3
theorem opm_f {z : Nat} (h : z = 4294967286 ∨ z = 4294967287 ∨ z = 4294967285) : opm z = 2 := by rcases h with rfl | rfl | rfl <;> decide
theorem argm_87 {fh : Nat} : argm fh 4294967287 = 0 := by unfold argm; rw [if_neg (by decide), if_pos rfl]
theorem argm_86 {fh : Nat} : argm fh 4294967286 = if fh = 8 then 3 else 1 := by unfold argm; rw [if_neg (by decide), if_neg (by decide), if_pos rfl]
theorem argm_85 {fh : Nat} : argm fh 4294967285 = 2 := by unfold argm; rw [if_neg (by decide), if_neg (by decide), if_neg (by decide), if_pos rfl]
theorem pc_part (d n : Nat) {t0 : en_H} {z me ti ou : Nat} (hz : z < 2147483648 ∨ z = 4294967286 ∨ z = 4294967287 ∨ z = 4294967285) : en_u (d + 1) 254 [.inl z, .inl me, .inl ti, .inl ou] t0 n = some (some (.inl (vpt me ti ou z)), t0, n, 0) := by
  have h9 : ∃ r, en_u (d + 1) 254 [.inl z, .inl me, .inl ti, .inl ou] t0 n = some r ∧ r = (some (.inl (vpt me ti ou z)), t0, n, 0) := by
    refine en_u_ex rfl ?_
    show en_ex _ _ _ _ (0, [(0, .inl z), (1, .inl me), (2, .inl ti), (3, .inl ou)], [], t0, n, 0) _
    rcases hz with hz | rfl | rfl | rfl
    · refine ex_go (S := (1, [(0, .inl z), (1, .inl me), (2, .inl ti), (3, .inl ou)], [.inl z], t0, n, 0)) rfl (fun _ => rfl) rfl ?_
      refine gx_swd (tg := 34) rfl (by first | decide | omega) (by decide) (by decide) rfl ?_
      refine ex_go (S := (35, [(0, .inl z), (1, .inl me), (2, .inl ti), (3, .inl ou)], [.inl z], t0, n, 0)) rfl (fun _ => rfl) rfl ?_
      refine ex_ret (r := (some (.inl z), t0, n, 0)) rfl (fun _ => rfl) ?_
      refine ⟨_, rfl, ?_⟩
      unfold vpt
      rw [if_neg (by first | decide | omega), if_neg (by first | decide | omega), if_neg (by first | decide | omega)]
    · refine ex_go (S := (1, [(0, .inl 4294967286), (1, .inl me), (2, .inl ti), (3, .inl ou)], [.inl 4294967286], t0, n, 0)) rfl (fun _ => rfl) rfl ?_
      refine ex_go (S := (30, [(0, .inl 4294967286), (1, .inl me), (2, .inl ti), (3, .inl ou)], [], t0, n, 0)) rfl (fun _ => rfl) rfl ?_
      refine ex_go (S := (31, [(0, .inl 4294967286), (1, .inl me), (2, .inl ti), (3, .inl ou)], [.inl ti], t0, n, 0)) rfl (fun _ => rfl) rfl ?_
      refine ex_ret (r := (some (.inl ti), t0, n, 0)) rfl (fun _ => rfl) ?_
      exact ⟨_, rfl, by rw [vpt_86]⟩
    · refine ex_go (S := (1, [(0, .inl 4294967287), (1, .inl me), (2, .inl ti), (3, .inl ou)], [.inl 4294967287], t0, n, 0)) rfl (fun _ => rfl) rfl ?_
      refine ex_go (S := (28, [(0, .inl 4294967287), (1, .inl me), (2, .inl ti), (3, .inl ou)], [], t0, n, 0)) rfl (fun _ => rfl) rfl ?_
      refine ex_go (S := (29, [(0, .inl 4294967287), (1, .inl me), (2, .inl ti), (3, .inl ou)], [.inl me], t0, n, 0)) rfl (fun _ => rfl) rfl ?_
      refine ex_ret (r := (some (.inl me), t0, n, 0)) rfl (fun _ => rfl) ?_
      exact ⟨_, rfl, by rw [vpt_87]⟩
    · refine ex_go (S := (1, [(0, .inl 4294967285), (1, .inl me), (2, .inl ti), (3, .inl ou)], [.inl 4294967285], t0, n, 0)) rfl (fun _ => rfl) rfl ?_
      refine ex_go (S := (32, [(0, .inl 4294967285), (1, .inl me), (2, .inl ti), (3, .inl ou)], [], t0, n, 0)) rfl (fun _ => rfl) rfl ?_
      refine ex_go (S := (33, [(0, .inl 4294967285), (1, .inl me), (2, .inl ti), (3, .inl ou)], [.inl ou], t0, n, 0)) rfl (fun _ => rfl) rfl ?_
      refine ex_ret (r := (some (.inl ou), t0, n, 0)) rfl (fun _ => rfl) ?_
      exact ⟨_, rfl, by rw [vpt_85]⟩
  obtain ⟨_, h8, rfl⟩ := h9
  exact h8
theorem wv_num (d n : Nat) {t0 : en_H} {cl : en_L} {h i z : Nat} {Q : en_O → Prop} (g0 : ai_HG ah_G t0) (h0 : en_ld cl 0 = some (gx_r 383)) (h2 : en_ld cl 2 = some (.inl h)) (h3 : en_ld cl 3 = some (.inl i)) (hi : i < 1099) (hh : h ≤ 25) (ko : ai_hv t0 390 i = some (.inl 1)) (kz : ai_hv t0 391 i = some (.inl z)) (hz : z < 4294967296) (hQ : ∀ cl' t', ai_HG ah_G t' → (∀ c j, ¬ (c = 398 ∧ j = h) → ai_hv t' c j = ai_hv t0 c j) → ai_hv t' 398 (h) = some (.inl (z)) → en_ld cl' 0 = some (gx_r 383) → en_ld cl' 2 = some (.inl (h + 1)) → en_ld cl' 3 = some (.inl (i + 1)) → en_ex none (en_u (d + 1)) (en_code 255) (fun _ => false) (4, cl', [], t', n, 0) Q) : en_ex none (en_u (d + 1)) (en_code 255) (fun _ => false) (4, cl, [], t0, n, 0) Q := by
  refine gx_ld (i := 0) (d := 2) (v := gx_r 383) rfl (fun _ => rfl) h0 rfl rfl ?_
  refine gx_ref (c := 390) rfl g0 rfl rfl rfl rfl ?_
  refine gx_ld (i := 3) (d := 0) (v := .inl i) rfl (fun _ => rfl) h3 rfl rfl ?_
  refine gx_ag (v := .inl 1) (cb := fun c => Nat.beq c 0) rfl (fun _ => rfl) g0 rfl rfl ko (by first | decide | omega) rfl ?_
  refine ex_go (S := (13, cl, [], t0, n, 0)) rfl (fun _ => rfl) rfl ?_
  refine gx_ld (i := 0) (d := 2) (v := gx_r 383) rfl (fun _ => rfl) h0 rfl rfl ?_
  refine gx_ref (c := 390) rfl g0 rfl rfl rfl rfl ?_
  refine gx_ld (i := 3) (d := 0) (v := .inl i) rfl (fun _ => rfl) h3 rfl rfl ?_
  refine gx_ag (v := .inl 1) (cb := fun c => Nat.beq c 0) rfl (fun _ => rfl) g0 rfl rfl ko (by first | decide | omega) rfl ?_
  refine gx_sto (i := 4) (d := 0) rfl (fun _ => rfl) rfl rfl (fun l1 hl1 ml1 => ?_)
  have l1_0 : en_ld l1 0 = some (gx_r 383) := ml1 0 _ h0 rfl
  have l1_2 : en_ld l1 2 = some (.inl h) := ml1 2 _ h2 rfl
  have l1_3 : en_ld l1 3 = some (.inl i) := ml1 3 _ h3 rfl
  refine gx_ld (i := 4) (d := 0) (v := .inl 1) rfl (fun _ => rfl) hl1 rfl rfl ?_
  refine ex_go (S := (24, l1, [.inl 1, .inl 1], t0, n, 0)) rfl (fun _ => rfl) rfl ?_
  refine ex_go (S := (33, l1, [], t0, n, 0)) rfl (fun _ => rfl) rfl ?_
  refine gx_ld (i := 0) (d := 2) (v := gx_r 383) rfl (fun _ => rfl) l1_0 rfl rfl ?_
  refine gx_ref (c := 398) rfl g0 rfl rfl rfl rfl ?_
  refine gx_ld (i := 2) (d := 0) (v := .inl h) rfl (fun _ => rfl) l1_2 rfl rfl ?_
  refine gx_ld (i := 4) (d := 0) (v := .inl 1) rfl (fun _ => rfl) hl1 rfl rfl ?_
  refine ex_go (S := (41, l1, [.inl 1, .inl 1, .inl h, gx_r 398], t0, n, 0)) rfl (fun _ => rfl) rfl ?_
  refine ex_go (S := (44, l1, [.inl h, gx_r 398], t0, n, 0)) rfl (fun _ => rfl) rfl ?_
  refine gx_ld (i := 0) (d := 2) (v := gx_r 383) rfl (fun _ => rfl) l1_0 rfl rfl ?_
  refine gx_ref (c := 391) rfl g0 rfl rfl rfl rfl ?_
  refine gx_ld (i := 3) (d := 0) (v := .inl i) rfl (fun _ => rfl) l1_3 rfl rfl ?_
  refine gx_ag (v := .inl z) (cb := fun c => Nat.beq c 0) rfl (fun _ => rfl) g0 rfl rfl kz (by first | decide | omega) rfl ?_
  refine ex_go (S := (64, l1, [.inl z, .inl h, gx_r 398], t0, n, 0)) rfl (fun _ => rfl) rfl ?_
  refine gx_ap rfl (fun _ => rfl) g0 rfl rfl rfl (show h < 1100 from by omega) (gx_run1 (show h < 1100 from by omega)) (gx_full (by first | decide | omega)) rfl (fun t102 g102 k102 e102 => ?_)
  have k3 : ai_hv t102 390 i = some (.inl 1) := (e102 390 i (by first | decide | omega)).trans ko
  have k4 : ai_hv t102 391 i = some (.inl z) := (e102 391 i (by first | decide | omega)).trans kz
  refine gx_incS (i := 2) (a := h) (x := 1) rfl (fun _ => rfl) l1_2 (by first | decide | omega) rfl (fun l5 hl5 ml5 => ?_)
  have l5_0 : en_ld l5 0 = some (gx_r 383) := ml5 0 _ l1_0 rfl
  have l5_3 : en_ld l5 3 = some (.inl i) := ml5 3 _ l1_3 rfl
  have l5_4 : en_ld l5 4 = some (.inl 1) := ml5 4 _ hl1 rfl
  refine ex_go (S := (134, l5, [], t102, n, 0)) rfl (fun _ => rfl) rfl ?_
  refine gx_incS (i := 3) (a := i) (x := 1) rfl (fun _ => rfl) l5_3 (by first | decide | omega) rfl (fun l6 hl6 ml6 => ?_)
  have l6_0 : en_ld l6 0 = some (gx_r 383) := ml6 0 _ l5_0 rfl
  have l6_4 : en_ld l6 4 = some (.inl 1) := ml6 4 _ l5_4 rfl
  have l6_2 : en_ld l6 2 = some (.inl (h + 1)) := ml6 2 _ hl5 rfl
  refine ex_go (S := (4, l6, [], t102, n, 0)) rfl (fun _ => rfl) rfl ?_
  exact hQ _ t102 g102 (fun c j h9 => e102 c j (by first | decide | omega)) k102 l6_0 l6_2 hl6
theorem wv_fact (d n : Nat) {t0 : en_H} {cl : en_L} {h i z v : Nat} {Q : en_O → Prop} (g0 : ai_HG ah_G t0) (h0 : en_ld cl 0 = some (gx_r 383)) (h2 : en_ld cl 2 = some (.inl h)) (h3 : en_ld cl 3 = some (.inl i)) (hi : i < 1099) (hh : h ≤ 25) (ko : ai_hv t0 390 i = some (.inl 2)) (kz : ai_hv t0 391 i = some (.inl z)) (hz : z < 4) (kv : ai_hv t0 397 z = some (.inl v)) (hv : v < 4294967296) (hQ : ∀ cl' t', ai_HG ah_G t' → (∀ c j, ¬ (c = 398 ∧ j = h) → ai_hv t' c j = ai_hv t0 c j) → ai_hv t' 398 (h) = some (.inl (v)) → en_ld cl' 0 = some (gx_r 383) → en_ld cl' 2 = some (.inl (h + 1)) → en_ld cl' 3 = some (.inl (i + 1)) → en_ex none (en_u (d + 1)) (en_code 255) (fun _ => false) (4, cl', [], t', n, 0) Q) : en_ex none (en_u (d + 1)) (en_code 255) (fun _ => false) (4, cl, [], t0, n, 0) Q := by
  refine gx_ld (i := 0) (d := 2) (v := gx_r 383) rfl (fun _ => rfl) h0 rfl rfl ?_
  refine gx_ref (c := 390) rfl g0 rfl rfl rfl rfl ?_
  refine gx_ld (i := 3) (d := 0) (v := .inl i) rfl (fun _ => rfl) h3 rfl rfl ?_
  refine gx_ag (v := .inl 2) (cb := fun c => Nat.beq c 0) rfl (fun _ => rfl) g0 rfl rfl ko (by first | decide | omega) rfl ?_
  refine ex_go (S := (13, cl, [], t0, n, 0)) rfl (fun _ => rfl) rfl ?_
  refine gx_ld (i := 0) (d := 2) (v := gx_r 383) rfl (fun _ => rfl) h0 rfl rfl ?_
  refine gx_ref (c := 390) rfl g0 rfl rfl rfl rfl ?_
  refine gx_ld (i := 3) (d := 0) (v := .inl i) rfl (fun _ => rfl) h3 rfl rfl ?_
  refine gx_ag (v := .inl 2) (cb := fun c => Nat.beq c 0) rfl (fun _ => rfl) g0 rfl rfl ko (by first | decide | omega) rfl ?_
  refine gx_sto (i := 4) (d := 0) rfl (fun _ => rfl) rfl rfl (fun l1 hl1 ml1 => ?_)
  have l1_0 : en_ld l1 0 = some (gx_r 383) := ml1 0 _ h0 rfl
  have l1_2 : en_ld l1 2 = some (.inl h) := ml1 2 _ h2 rfl
  have l1_3 : en_ld l1 3 = some (.inl i) := ml1 3 _ h3 rfl
  refine gx_ld (i := 4) (d := 0) (v := .inl 2) rfl (fun _ => rfl) hl1 rfl rfl ?_
  refine ex_go (S := (24, l1, [.inl 1, .inl 2], t0, n, 0)) rfl (fun _ => rfl) rfl ?_
  refine ex_go (S := (27, l1, [], t0, n, 0)) rfl (fun _ => rfl) rfl ?_
  refine gx_ld (i := 4) (d := 0) (v := .inl 2) rfl (fun _ => rfl) hl1 rfl rfl ?_
  refine ex_go (S := (30, l1, [.inl 2, .inl 2], t0, n, 0)) rfl (fun _ => rfl) rfl ?_
  refine ex_go (S := (33, l1, [], t0, n, 0)) rfl (fun _ => rfl) rfl ?_
  refine gx_ld (i := 0) (d := 2) (v := gx_r 383) rfl (fun _ => rfl) l1_0 rfl rfl ?_
  refine gx_ref (c := 398) rfl g0 rfl rfl rfl rfl ?_
  refine gx_ld (i := 2) (d := 0) (v := .inl h) rfl (fun _ => rfl) l1_2 rfl rfl ?_
  refine gx_ld (i := 4) (d := 0) (v := .inl 2) rfl (fun _ => rfl) hl1 rfl rfl ?_
  refine ex_go (S := (41, l1, [.inl 1, .inl 2, .inl h, gx_r 398], t0, n, 0)) rfl (fun _ => rfl) rfl ?_
  refine ex_go (S := (53, l1, [.inl h, gx_r 398], t0, n, 0)) rfl (fun _ => rfl) rfl ?_
  refine gx_ld (i := 0) (d := 2) (v := gx_r 383) rfl (fun _ => rfl) l1_0 rfl rfl ?_
  refine gx_ref (c := 397) rfl g0 rfl rfl rfl rfl ?_
  refine gx_ld (i := 0) (d := 2) (v := gx_r 383) rfl (fun _ => rfl) l1_0 rfl rfl ?_
  refine gx_ref (c := 391) rfl g0 rfl rfl rfl rfl ?_
  refine gx_ld (i := 3) (d := 0) (v := .inl i) rfl (fun _ => rfl) l1_3 rfl rfl ?_
  refine gx_ag (v := .inl z) (cb := fun c => Nat.beq c 0) rfl (fun _ => rfl) g0 rfl rfl kz (by first | decide | omega) rfl ?_
  refine gx_ag (v := .inl v) (cb := fun c => Nat.beq c 0) rfl (fun _ => rfl) g0 rfl rfl kv (by first | decide | omega) rfl ?_
  refine gx_ap rfl (fun _ => rfl) g0 rfl rfl rfl (show h < 1100 from by omega) (gx_run1 (show h < 1100 from by omega)) (gx_full (by first | decide | omega)) rfl (fun t102 g102 k102 e102 => ?_)
  have k3 : ai_hv t102 390 i = some (.inl 2) := (e102 390 i (by first | decide | omega)).trans ko
  have k4 : ai_hv t102 391 i = some (.inl z) := (e102 391 i (by first | decide | omega)).trans kz
  have k5 : ai_hv t102 397 z = some (.inl v) := (e102 397 z (by first | decide | omega)).trans kv
  refine gx_incS (i := 2) (a := h) (x := 1) rfl (fun _ => rfl) l1_2 (by first | decide | omega) rfl (fun l6 hl6 ml6 => ?_)
  have l6_0 : en_ld l6 0 = some (gx_r 383) := ml6 0 _ l1_0 rfl
  have l6_3 : en_ld l6 3 = some (.inl i) := ml6 3 _ l1_3 rfl
  have l6_4 : en_ld l6 4 = some (.inl 2) := ml6 4 _ hl1 rfl
  refine ex_go (S := (134, l6, [], t102, n, 0)) rfl (fun _ => rfl) rfl ?_
  refine gx_incS (i := 3) (a := i) (x := 1) rfl (fun _ => rfl) l6_3 (by first | decide | omega) rfl (fun l7 hl7 ml7 => ?_)
  have l7_0 : en_ld l7 0 = some (gx_r 383) := ml7 0 _ l6_0 rfl
  have l7_4 : en_ld l7 4 = some (.inl 2) := ml7 4 _ l6_4 rfl
  have l7_2 : en_ld l7 2 = some (.inl (h + 1)) := ml7 2 _ hl6 rfl
  refine ex_go (S := (4, l7, [], t102, n, 0)) rfl (fun _ => rfl) rfl ?_
  exact hQ _ t102 g102 (fun c j h9 => e102 c j (by first | decide | omega)) k102 l7_0 l7_2 hl7
theorem wv_not (d n : Nat) {t0 : en_H} {cl : en_L} {h i x : Nat} {Q : en_O → Prop} (g0 : ai_HG ah_G t0) (h0 : en_ld cl 0 = some (gx_r 383)) (h2 : en_ld cl 2 = some (.inl h)) (h3 : en_ld cl 3 = some (.inl i)) (hi : i < 1099) (hh : h ≤ 25) (ko : ai_hv t0 390 i = some (.inl 3)) (h1 : 1 ≤ h) (kx : ai_hv t0 398 (h - 1) = some (.inl x)) (hx : x < 4294967296) (hQ : ∀ cl' t', ai_HG ah_G t' → (∀ c j, ¬ (c = 398 ∧ j = h - 1) → ai_hv t' c j = ai_hv t0 c j) → ai_hv t' 398 (h - 1) = some (.inl (vnot x)) → en_ld cl' 0 = some (gx_r 383) → en_ld cl' 2 = some (.inl (h)) → en_ld cl' 3 = some (.inl (i + 1)) → en_ex none (en_u (d + 1)) (en_code 255) (fun _ => false) (4, cl', [], t', n, 0) Q) : en_ex none (en_u (d + 1)) (en_code 255) (fun _ => false) (4, cl, [], t0, n, 0) Q := by
  refine gx_ld (i := 0) (d := 2) (v := gx_r 383) rfl (fun _ => rfl) h0 rfl rfl ?_
  refine gx_ref (c := 390) rfl g0 rfl rfl rfl rfl ?_
  refine gx_ld (i := 3) (d := 0) (v := .inl i) rfl (fun _ => rfl) h3 rfl rfl ?_
  refine gx_ag (v := .inl 3) (cb := fun c => Nat.beq c 0) rfl (fun _ => rfl) g0 rfl rfl ko (by first | decide | omega) rfl ?_
  refine ex_go (S := (13, cl, [], t0, n, 0)) rfl (fun _ => rfl) rfl ?_
  refine gx_ld (i := 0) (d := 2) (v := gx_r 383) rfl (fun _ => rfl) h0 rfl rfl ?_
  refine gx_ref (c := 390) rfl g0 rfl rfl rfl rfl ?_
  refine gx_ld (i := 3) (d := 0) (v := .inl i) rfl (fun _ => rfl) h3 rfl rfl ?_
  refine gx_ag (v := .inl 3) (cb := fun c => Nat.beq c 0) rfl (fun _ => rfl) g0 rfl rfl ko (by first | decide | omega) rfl ?_
  refine gx_sto (i := 4) (d := 0) rfl (fun _ => rfl) rfl rfl (fun l1 hl1 ml1 => ?_)
  have l1_0 : en_ld l1 0 = some (gx_r 383) := ml1 0 _ h0 rfl
  have l1_2 : en_ld l1 2 = some (.inl h) := ml1 2 _ h2 rfl
  have l1_3 : en_ld l1 3 = some (.inl i) := ml1 3 _ h3 rfl
  refine gx_ld (i := 4) (d := 0) (v := .inl 3) rfl (fun _ => rfl) hl1 rfl rfl ?_
  refine ex_go (S := (24, l1, [.inl 1, .inl 3], t0, n, 0)) rfl (fun _ => rfl) rfl ?_
  refine ex_go (S := (27, l1, [], t0, n, 0)) rfl (fun _ => rfl) rfl ?_
  refine gx_ld (i := 4) (d := 0) (v := .inl 3) rfl (fun _ => rfl) hl1 rfl rfl ?_
  refine ex_go (S := (30, l1, [.inl 2, .inl 3], t0, n, 0)) rfl (fun _ => rfl) rfl ?_
  refine ex_go (S := (71, l1, [], t0, n, 0)) rfl (fun _ => rfl) rfl ?_
  refine gx_ld (i := 4) (d := 0) (v := .inl 3) rfl (fun _ => rfl) hl1 rfl rfl ?_
  refine ex_go (S := (74, l1, [.inl 3, .inl 3], t0, n, 0)) rfl (fun _ => rfl) rfl ?_
  refine ex_go (S := (77, l1, [], t0, n, 0)) rfl (fun _ => rfl) rfl ?_
  refine gx_ld (i := 0) (d := 2) (v := gx_r 383) rfl (fun _ => rfl) l1_0 rfl rfl ?_
  refine gx_ref (c := 398) rfl g0 rfl rfl rfl rfl ?_
  refine gx_ld (i := 2) (d := 0) (v := .inl h) rfl (fun _ => rfl) l1_2 rfl rfl ?_
  refine ex_go (S := (83, l1, [.inl 1, .inl h, gx_r 398], t0, n, 0)) rfl (fun _ => rfl) rfl ?_
  refine gx_isub rfl (by first | decide | omega) (by first | decide | omega) rfl ?_
  refine gx_ld (i := 0) (d := 2) (v := gx_r 383) rfl (fun _ => rfl) l1_0 rfl rfl ?_
  refine gx_ref (c := 398) rfl g0 rfl rfl rfl rfl ?_
  refine gx_ld (i := 2) (d := 0) (v := .inl h) rfl (fun _ => rfl) l1_2 rfl rfl ?_
  refine ex_go (S := (90, l1, [.inl 1, .inl h, gx_r 398, .inl (h - 1), gx_r 398], t0, n, 0)) rfl (fun _ => rfl) rfl ?_
  refine gx_isub rfl (by first | decide | omega) (by first | decide | omega) rfl ?_
  refine gx_ag (v := .inl x) (cb := fun c => Nat.beq c 0) rfl (fun _ => rfl) g0 rfl rfl kx (by first | decide | omega) rfl ?_
  refine gx_1r (c := .ne) rfl (by first | decide | omega) rfl rfl (fun hr2 => ?_) (fun hr2 => ?_)
  · show en_ex _ _ _ _ (99, l1, [.inl (h - 1), gx_r 398], t0, n, 0) _
    refine ex_go (S := (100, l1, [.inl 0, .inl (h - 1), gx_r 398], t0, n, 0)) rfl (fun _ => rfl) rfl ?_
    refine gx_ap rfl (fun _ => rfl) g0 rfl rfl rfl (show h - 1 < 1100 from by omega) (gx_run1 (show h - 1 < 1100 from by omega)) (gx_full (by first | decide | omega)) rfl (fun t103 g103 k103 e103 => ?_)
    have k4 : ai_hv t103 390 i = some (.inl 3) := (e103 390 i (by first | decide | omega)).trans ko
    refine ex_go (S := (134, l1, [], t103, n, 0)) rfl (fun _ => rfl) rfl ?_
    refine gx_incS (i := 3) (a := i) (x := 1) rfl (fun _ => rfl) l1_3 (by first | decide | omega) rfl (fun l5 hl5 ml5 => ?_)
    have l5_0 : en_ld l5 0 = some (gx_r 383) := ml5 0 _ l1_0 rfl
    have l5_2 : en_ld l5 2 = some (.inl h) := ml5 2 _ l1_2 rfl
    have l5_4 : en_ld l5 4 = some (.inl 3) := ml5 4 _ hl1 rfl
    refine ex_go (S := (4, l5, [], t103, n, 0)) rfl (fun _ => rfl) rfl ?_
    have hv9 : vnot x = 0 := cif_t hr2
    exact hQ _ t103 g103 (fun c j h9 => e103 c j (by first | decide | omega)) (by rw [hv9]; exact k103) l5_0 l5_2 hl5
  · show en_ex _ _ _ _ (95, l1, [.inl (h - 1), gx_r 398], t0, n, 0) _
    refine ex_go (S := (96, l1, [.inl 1, .inl (h - 1), gx_r 398], t0, n, 0)) rfl (fun _ => rfl) rfl ?_
    refine ex_go (S := (100, l1, [.inl 1, .inl (h - 1), gx_r 398], t0, n, 0)) rfl (fun _ => rfl) rfl ?_
    refine gx_ap rfl (fun _ => rfl) g0 rfl rfl rfl (show h - 1 < 1100 from by omega) (gx_run1 (show h - 1 < 1100 from by omega)) (gx_full (by first | decide | omega)) rfl (fun t106 g106 k106 e106 => ?_)
    have k7 : ai_hv t106 390 i = some (.inl 3) := (e106 390 i (by first | decide | omega)).trans ko
    refine ex_go (S := (134, l1, [], t106, n, 0)) rfl (fun _ => rfl) rfl ?_
    refine gx_incS (i := 3) (a := i) (x := 1) rfl (fun _ => rfl) l1_3 (by first | decide | omega) rfl (fun l8 hl8 ml8 => ?_)
    have l8_0 : en_ld l8 0 = some (gx_r 383) := ml8 0 _ l1_0 rfl
    have l8_2 : en_ld l8 2 = some (.inl h) := ml8 2 _ l1_2 rfl
    have l8_4 : en_ld l8 4 = some (.inl 3) := ml8 4 _ hl1 rfl
    refine ex_go (S := (4, l8, [], t106, n, 0)) rfl (fun _ => rfl) rfl ?_
    have hv9 : vnot x = 1 := cif_f hr2
    exact hQ _ t106 g106 (fun c j h9 => e106 c j (by first | decide | omega)) (by rw [hv9]; exact k106) l8_0 l8_2 hl8
theorem wv_bin (d n : Nat) {t0 : en_H} {cl : en_L} {h i o x y : Nat} {Q : en_O → Prop} (g0 : ai_HG ah_G t0) (h0 : en_ld cl 0 = some (gx_r 383)) (h2 : en_ld cl 2 = some (.inl h)) (h3 : en_ld cl 3 = some (.inl i)) (hi : i < 1099) (hh : h ≤ 25) (ko : ai_hv t0 390 i = some (.inl o)) (ho : 4 ≤ o ∧ o ≤ 10) (h1 : 2 ≤ h) (ky : ai_hv t0 398 (h - 1) = some (.inl y)) (hy : y < 4294967296) (kx : ai_hv t0 398 (h - 1 - 1) = some (.inl x)) (hx : x < 4294967296) (hQ : ∀ cl' t', ai_HG ah_G t' → (∀ c j, ¬ (c = 398 ∧ j = h - 1 - 1) → ai_hv t' c j = ai_hv t0 c j) → ai_hv t' 398 (h - 1 - 1) = some (.inl (vb o x y)) → en_ld cl' 0 = some (gx_r 383) → en_ld cl' 2 = some (.inl (h - 1)) → en_ld cl' 3 = some (.inl (i + 1)) → en_ex none (en_u (d + 1)) (en_code 255) (fun _ => false) (4, cl', [], t', n, 0) Q) : en_ex none (en_u (d + 1)) (en_code 255) (fun _ => false) (4, cl, [], t0, n, 0) Q := by
  refine gx_ld (i := 0) (d := 2) (v := gx_r 383) rfl (fun _ => rfl) h0 rfl rfl ?_
  refine gx_ref (c := 390) rfl g0 rfl rfl rfl rfl ?_
  refine gx_ld (i := 3) (d := 0) (v := .inl i) rfl (fun _ => rfl) h3 rfl rfl ?_
  refine gx_ag (v := .inl o) (cb := fun c => Nat.beq c 0) rfl (fun _ => rfl) g0 rfl rfl ko (by first | decide | omega) rfl ?_
  refine gx_1f (c := .eq) rfl (by first | decide | omega) (show ¬ (o = 0) from by omega) rfl ?_
  refine gx_ld (i := 0) (d := 2) (v := gx_r 383) rfl (fun _ => rfl) h0 rfl rfl ?_
  refine gx_ref (c := 390) rfl g0 rfl rfl rfl rfl ?_
  refine gx_ld (i := 3) (d := 0) (v := .inl i) rfl (fun _ => rfl) h3 rfl rfl ?_
  refine gx_ag (v := .inl o) (cb := fun c => Nat.beq c 0) rfl (fun _ => rfl) g0 rfl rfl ko (by first | decide | omega) rfl ?_
  refine gx_sto (i := 4) (d := 0) rfl (fun _ => rfl) rfl rfl (fun l1 hl1 ml1 => ?_)
  have l1_0 : en_ld l1 0 = some (gx_r 383) := ml1 0 _ h0 rfl
  have l1_2 : en_ld l1 2 = some (.inl h) := ml1 2 _ h2 rfl
  have l1_3 : en_ld l1 3 = some (.inl i) := ml1 3 _ h3 rfl
  refine gx_ld (i := 4) (d := 0) (v := .inl o) rfl (fun _ => rfl) hl1 rfl rfl ?_
  refine ex_go (S := (24, l1, [.inl 1, .inl o], t0, n, 0)) rfl (fun _ => rfl) rfl ?_
  refine gx_2f (c := .eq) rfl (by first | decide | omega) (by first | decide | omega) (show ¬ (o = 1) from by omega) rfl ?_
  refine gx_ld (i := 4) (d := 0) (v := .inl o) rfl (fun _ => rfl) hl1 rfl rfl ?_
  refine ex_go (S := (30, l1, [.inl 2, .inl o], t0, n, 0)) rfl (fun _ => rfl) rfl ?_
  refine gx_2t (c := .ne) rfl (by first | decide | omega) (by first | decide | omega) (show o ≠ 2 from by omega) rfl ?_
  refine gx_ld (i := 4) (d := 0) (v := .inl o) rfl (fun _ => rfl) hl1 rfl rfl ?_
  refine ex_go (S := (74, l1, [.inl 3, .inl o], t0, n, 0)) rfl (fun _ => rfl) rfl ?_
  refine gx_2t (c := .ne) rfl (by first | decide | omega) (by first | decide | omega) (show o ≠ 3 from by omega) rfl ?_
  refine gx_decS (i := 2) (a := h) rfl (fun _ => rfl) l1_2 (by first | decide | omega) (by first | decide | omega) rfl (fun l2 hl2 ml2 => ?_)
  have l2_0 : en_ld l2 0 = some (gx_r 383) := ml2 0 _ l1_0 rfl
  have l2_3 : en_ld l2 3 = some (.inl i) := ml2 3 _ l1_3 rfl
  have l2_4 : en_ld l2 4 = some (.inl o) := ml2 4 _ hl1 rfl
  refine gx_ld (i := 0) (d := 2) (v := gx_r 383) rfl (fun _ => rfl) l2_0 rfl rfl ?_
  refine gx_ref (c := 398) rfl g0 rfl rfl rfl rfl ?_
  refine gx_ld (i := 2) (d := 0) (v := .inl (h - 1)) rfl (fun _ => rfl) hl2 rfl rfl ?_
  refine ex_go (S := (113, l2, [.inl 1, .inl (h - 1), gx_r 398], t0, n, 0)) rfl (fun _ => rfl) rfl ?_
  refine gx_isub rfl (by first | decide | omega) (by first | decide | omega) rfl ?_
  refine gx_ld (i := 4) (d := 0) (v := .inl o) rfl (fun _ => rfl) l2_4 rfl rfl ?_
  refine gx_ld (i := 0) (d := 2) (v := gx_r 383) rfl (fun _ => rfl) l2_0 rfl rfl ?_
  refine gx_ref (c := 398) rfl g0 rfl rfl rfl rfl ?_
  refine gx_ld (i := 2) (d := 0) (v := .inl (h - 1)) rfl (fun _ => rfl) hl2 rfl rfl ?_
  refine ex_go (S := (122, l2, [.inl 1, .inl (h - 1), gx_r 398, .inl o, .inl ((h - 1) - 1), gx_r 398], t0, n, 0)) rfl (fun _ => rfl) rfl ?_
  refine gx_isub rfl (by first | decide | omega) (by first | decide | omega) rfl ?_
  refine gx_ag (v := .inl x) (cb := fun c => Nat.beq c 0) rfl (fun _ => rfl) g0 rfl rfl kx (by first | decide | omega) rfl ?_
  refine gx_ld (i := 0) (d := 2) (v := gx_r 383) rfl (fun _ => rfl) l2_0 rfl rfl ?_
  refine gx_ref (c := 398) rfl g0 rfl rfl rfl rfl ?_
  refine gx_ld (i := 2) (d := 0) (v := .inl (h - 1)) rfl (fun _ => rfl) hl2 rfl rfl ?_
  refine gx_ag (v := .inl y) (cb := fun c => Nat.beq c 0) rfl (fun _ => rfl) g0 rfl rfl ky (by first | decide | omega) rfl ?_
  refine ex_stat rfl rfl rfl rfl rfl (pe_both d n (t0 := t0) (o := o) (x := x) (y := y) (by first | decide | omega) (by first | decide | omega) (by first | decide | omega)) (Nat.le_refl _) rfl ?_
  have hvb := vb_lt (o := o) (a := x) (b := y)
  show en_ex _ _ _ _ (133, l2, [.inl (vb o x y), .inl ((h - 1) - 1), gx_r 398], t0, n, 0) _
  refine gx_ap rfl (fun _ => rfl) g0 rfl rfl rfl (show (h - 1) - 1 < 1100 from by omega) (gx_run1 (show (h - 1) - 1 < 1100 from by omega)) (gx_full (by first | decide | omega)) rfl (fun t103 g103 k103 e103 => ?_)
  have k4 : ai_hv t103 390 i = some (.inl o) := (e103 390 i (by first | decide | omega)).trans ko
  have k5 : ai_hv t103 398 (h - 1) = some (.inl y) := (e103 398 (h - 1) (by first | decide | omega)).trans ky
  refine gx_incS (i := 3) (a := i) (x := 1) rfl (fun _ => rfl) l2_3 (by first | decide | omega) rfl (fun l6 hl6 ml6 => ?_)
  have l6_0 : en_ld l6 0 = some (gx_r 383) := ml6 0 _ l2_0 rfl
  have l6_4 : en_ld l6 4 = some (.inl o) := ml6 4 _ l2_4 rfl
  have l6_2 : en_ld l6 2 = some (.inl (h - 1)) := ml6 2 _ hl2 rfl
  refine ex_go (S := (4, l6, [], t103, n, 0)) rfl (fun _ => rfl) rfl ?_
  exact hQ _ t103 g103 (fun c j h9 => e103 c j (by first | decide | omega)) k103 l6_0 l6_2 hl6
theorem wv_end (d n : Nat) {t0 : en_H} {cl : en_L} {h i v : Nat} {Q : en_O → Prop} (g0 : ai_HG ah_G t0) (h0 : en_ld cl 0 = some (gx_r 383)) (h2 : en_ld cl 2 = some (.inl h)) (h3 : en_ld cl 3 = some (.inl i)) (hi : i < 1099) (hh : h ≤ 25) (ko : ai_hv t0 390 i = some (.inl 0)) (kv : ai_hv t0 398 0 = some (.inl v)) (hv : v < 4294967296) (hQ : Q (.inl (some (.inl v), t0, n, 0))) : en_ex none (en_u (d + 1)) (en_code 255) (fun _ => false) (4, cl, [], t0, n, 0) Q := by
  refine gx_ld (i := 0) (d := 2) (v := gx_r 383) rfl (fun _ => rfl) h0 rfl rfl ?_
  refine gx_ref (c := 390) rfl g0 rfl rfl rfl rfl ?_
  refine gx_ld (i := 3) (d := 0) (v := .inl i) rfl (fun _ => rfl) h3 rfl rfl ?_
  refine gx_ag (v := .inl 0) (cb := fun c => Nat.beq c 0) rfl (fun _ => rfl) g0 rfl rfl ko (by first | decide | omega) rfl ?_
  refine ex_go (S := (140, cl, [], t0, n, 0)) rfl (fun _ => rfl) rfl ?_
  refine gx_ld (i := 0) (d := 2) (v := gx_r 383) rfl (fun _ => rfl) h0 rfl rfl ?_
  refine gx_ref (c := 398) rfl g0 rfl rfl rfl rfl ?_
  refine ex_go (S := (145, cl, [.inl 0, gx_r 398], t0, n, 0)) rfl (fun _ => rfl) rfl ?_
  refine gx_ag (v := .inl v) (cb := fun c => Nat.beq c 0) rfl (fun _ => rfl) g0 rfl rfl kv (by first | decide | omega) rfl ?_
  refine ex_ret (r := (some (.inl v), t0, n, 0)) rfl (fun _ => rfl) ?_
  exact hQ
theorem opm_n {z : Nat} (h : z < 2147483648) : opm z = 1 := by unfold opm; rw [if_pos h]
theorem argm_n {fh z : Nat} (h : z < 2147483648) : argm fh z = z := by unfold argm; rw [if_pos h]
/-- the facts as the reference lays them -/
noncomputable def rfc (t : en_H) (fh me ti ou : Nat) : Prop := me < 4294967296 ∧ ti < 4294967296 ∧ ou < 4294967296 ∧ ai_hv t 397 (argm fh 4294967286) = some (.inl ti) ∧ (fh = 7 → ai_hv t 397 0 = some (.inl me) ∧ ai_hv t 397 2 = some (.inl ou))
theorem wv_l (d n : Nat) {tb : en_H} {fh me ti ou : Nat} (hfh : fh = 7 ∨ fh = 8 ∨ fh = 2) (hf : rfc tb fh me ti ou) : ∀ (L : List Nat) (i : Nat) (q : List Nat) (cl : en_L) (t0 : en_H), rco tb fh i L → i + L.length < 1099 → (∀ z, z ∈ L → vo fh z) → hrun 25 L q.length = some 1 → q.length ≤ 25 → ai_HG ah_G t0 → (∀ c i, c ≠ 398 → ai_hv t0 c i = ai_hv tb c i) → stk t0 398 q → en_ld cl 0 = some (gx_r 383) → en_ld cl 2 = some (.inl q.length) → en_ld cl 3 = some (.inl i) → en_ex none (en_u (d + 1)) (en_code 255) (fun _ => false) (4, cl, [], t0, n, 0) (fun o => ∃ v t1, o = .inl (some (.inl v), t1, n, 0) ∧ vrun me ti ou L q = [v] ∧ v < 4294967296 ∧ ai_HG ah_G t1 ∧ (∀ c i, c ≠ 398 → ai_hv t1 c i = ai_hv tb c i))
  | [], i, q, cl, t0, hc, hi, hv, hr, hq, g0, e0, hs, h0, h2, h3 => by
    have hr : some q.length = some 1 := hr
    have hl := Option.some.inj hr
    match q, hl, hs, h2 with
    | [v], _, hs, h2 =>
      exact wv_end d n g0 h0 h2 h3 (by have hi : i + 0 < 1099 := hi; omega) (by show 1 ≤ 25; decide) ((e0 390 i (by decide)).trans hc) hs.1 hs.2.1 ⟨v, t0, rfl, rfl, hs.2.1, g0, e0⟩
  | z :: L, i, q, cl, t0, hc, hi, hv, hr, hq, g0, e0, hs, h0, h2, h3 => by
    obtain ⟨c1, c2, c3⟩ := hc
    have hi' : i + (L.length + 1) < 1099 := hi
    have hvz := hv z List.mem_cons_self
    have hvL : ∀ z, z ∈ L → vo fh z := fun z hz => hv z (List.mem_cons_of_mem _ hz)
    have hr : (if vk z = 0 then (if q.length < 25 then hrun 25 L (q.length + 1) else none) else if vk z = 1 then (if 1 ≤ q.length then hrun 25 L q.length else none) else (if 2 ≤ q.length then hrun 25 L (q.length - 1) else none)) = some 1 := hr
    have k1 := (e0 390 i (by decide)).trans c1
    have k2 := (e0 391 i (by decide)).trans c2
    show en_ex none (en_u (d + 1)) (en_code 255) (fun _ => false) (4, cl, [], t0, n, 0) (fun o => ∃ v t1, o = .inl (some (.inl v), t1, n, 0) ∧ vrun me ti ou L (vs me ti ou z q) = [v] ∧ v < 4294967296 ∧ ai_HG ah_G t1 ∧ (∀ c i, c ≠ 398 → ai_hv t1 c i = ai_hv tb c i))
    by_cases z0 : vk z = 0
    · rw [if_pos z0] at hr
      by_cases hq2 : q.length < 25
      · rw [if_pos hq2] at hr
        have hvs : vs me ti ou z q = vpt me ti ou z :: q := by unfold vs; rw [if_pos z0]
        rw [hvs]
        rcases vk_nn z0 (Or.inr ⟨fh, hvz⟩) with hz | hz
        · rw [opm_n hz] at k1
          rw [argm_n hz] at k2
          rw [vpt_n hz]
          exact wv_num d n g0 h0 h2 h3 (by first | decide | omega) hq k1 k2 (by first | decide | omega) (fun cl' t' g' e' k' l0 l2 l3 => wv_l d n hfh hf L (i + 1) (z :: q) cl' t' c3 (by first | decide | omega) hvL hr (by show q.length + 1 ≤ 25; omega) g' (fun c j h9 => (e' c j (by first | decide | omega)).trans (e0 c j h9)) ⟨k', by omega, stk_keep hs (fun j hj => e' 398 j (by first | decide | omega))⟩ l0 l2 l3)
        · have hx : ∃ k v, opm z = 2 ∧ argm fh z = k ∧ k < 4 ∧ ai_hv tb 397 k = some (.inl v) ∧ v < 4294967296 ∧ vpt me ti ou z = v := by
            obtain ⟨f1, f2, f3, f4, f5⟩ := hf
            have hop := opm_f hz
            rcases hz with rfl | hz
            · refine ⟨_, ti, hop, rfl, ?_, f4, f2, vpt_86⟩
              rw [argm_86]
              split <;> decide
            · have h7 : fh = 7 := by
                rcases hvz with h | h | h | h
                · omega
                · exact absurd z0 h.1
                · omega
                · exact h.2
              obtain ⟨f6, f7⟩ := f5 h7
              rcases hz with rfl | rfl
              · exact ⟨0, me, hop, argm_87, by decide, f6, f1, vpt_87⟩
              · exact ⟨2, ou, hop, argm_85, by decide, f7, f3, vpt_85⟩
          obtain ⟨k, v, x1, x2, x3, x4, x5, x6⟩ := hx
          rw [x1] at k1
          rw [x2] at k2
          rw [x6]
          exact wv_fact d n g0 h0 h2 h3 (by first | decide | omega) hq k1 k2 x3 ((e0 397 k (by decide)).trans x4) x5 (fun cl' t' g' e' k' l0 l2 l3 => wv_l d n hfh hf L (i + 1) (v :: q) cl' t' c3 (by first | decide | omega) hvL hr (by show q.length + 1 ≤ 25; omega) g' (fun c j h9 => (e' c j (by first | decide | omega)).trans (e0 c j h9)) ⟨k', x5, stk_keep hs (fun j hj => e' 398 j (by first | decide | omega))⟩ l0 l2 l3)
      · rw [if_neg hq2] at hr
        cases hr
    · rw [if_neg z0] at hr
      by_cases z1 : vk z = 1
      · rw [if_pos z1] at hr
        match q, hs, hr, hq, h2 with
        | [], hs, hr, hq, h2 => exact absurd hr (by rw [if_neg (by decide)]; exact fun z => by cases z)
        | x :: r, hs, hr, hq, h2 =>
          have hr : hrun 25 L (r.length + 1) = some 1 := by rw [← hr]; exact (if_pos (Nat.succ_le_succ (Nat.zero_le _))).symm
          have hvs : vs me ti ou z (x :: r) = vnot x :: r := by unfold vs; rw [if_neg z0, if_pos z1]
          rw [hvs]
          rw [vk_1 z1, show opm 4294967295 = 3 by decide] at k1
          have hq' : r.length + 1 ≤ 25 := hq
          have h2' : en_ld cl 2 = some (.inl (r.length + 1)) := h2
          have kx : ai_hv t0 398 (r.length + 1 - 1) = some (.inl x) := hs.1
          exact wv_not d n g0 h0 h2' h3 (by first | decide | omega) hq' k1 (by first | decide | omega) kx hs.2.1 (fun cl' t' g' e' k' l0 l2 l3 => wv_l d n hfh hf L (i + 1) (vnot x :: r) cl' t' c3 (by first | decide | omega) hvL hr hq' g' (fun c j h9 => (e' c j (by first | decide | omega)).trans (e0 c j h9)) ⟨k', vnot_lt, stk_keep hs.2.2 (fun j hj => e' 398 j (by first | decide | omega))⟩ l0 l2 l3)
      · rw [if_neg z1] at hr
        match q, hs, hr, hq, h2 with
        | [], hs, hr, hq, h2 => exact absurd hr (by rw [if_neg (by decide)]; exact fun z => by cases z)
        | [x], hs, hr, hq, h2 => exact absurd hr (by rw [if_neg (show ¬ 2 ≤ [x].length from (by show ¬ 2 ≤ 1; decide))]; exact fun z => by cases z)
        | y :: x :: r, hs, hr, hq, h2 =>
          have hr : hrun 25 L (r.length + 1) = some 1 := by rw [← hr]; exact (if_pos (Nat.succ_le_succ (Nat.succ_le_succ (Nat.zero_le _)))).symm
          have hvs : vs me ti ou z (y :: x :: r) = vb (opm z) x y :: r := by unfold vs; rw [if_neg z0, if_neg z1]
          rw [hvs]
          have hq' : r.length + 1 + 1 ≤ 25 := hq
          have h2' : en_ld cl 2 = some (.inl (r.length + 1 + 1)) := h2
          have ky : ai_hv t0 398 (r.length + 1 + 1 - 1) = some (.inl y) := hs.1
          have kx : ai_hv t0 398 (r.length + 1 + 1 - 1 - 1) = some (.inl x) := hs.2.2.1
          exact wv_bin d n g0 h0 h2' h3 (by first | decide | omega) hq' k1 (vo_bin z0 z1) (by first | decide | omega) ky hs.2.1 kx hs.2.2.2.1 (fun cl' t' g' e' k' l0 l2 l3 => wv_l d n hfh hf L (i + 1) (vb (opm z) x y :: r) cl' t' c3 (by first | decide | omega) hvL hr (by show r.length + 1 ≤ 25; omega) g' (fun c j h9 => (e' c j (by first | decide | omega)).trans (e0 c j h9)) ⟨k', vb_lt, stk_keep hs.2.2.2.2 (fun j hj => e' 398 j (by first | decide | omega))⟩ l0 l2 l3)
theorem pe_worthAt (d n : Nat) {t0 : en_H} {fh me ti ou s : Nat} {L : List Nat} (g0 : ai_HG ah_G t0) (hfh : fh = 7 ∨ fh = 8 ∨ fh = 2) (hf : rfc t0 fh me ti ou) (hc : rco t0 fh s L) (hs : s + L.length < 1099) (hv : ∀ z, z ∈ L → vo fh z) (hr : hrun 25 L 0 = some 1) : ∃ r, en_u (d + 2) 255 [gx_r 383, .inl s] t0 n = some r ∧ ∃ v t', r = (some (.inl v), t', n, 0) ∧ vrun me ti ou L [] = [v] ∧ v < 4294967296 ∧ ai_HG ah_G t' ∧ (∀ c i, c ≠ 398 → ai_hv t' c i = ai_hv t0 c i) := by
  refine en_u_ex (d := d + 1) rfl ?_
  show en_ex _ _ _ _ (0, [(0, gx_r 383), (1, .inl s)], [], t0, n, 0) _
  refine ex_go (S := (1, [(0, gx_r 383), (1, .inl s)], [.inl 0], t0, n, 0)) rfl (fun _ => rfl) rfl ?_
  refine ex_go (S := (2, [(2, .inl 0), (0, gx_r 383), (1, .inl s)], [], t0, n, 0)) rfl (fun _ => rfl) rfl ?_
  refine ex_go (S := (3, [(2, .inl 0), (0, gx_r 383), (1, .inl s)], [.inl s], t0, n, 0)) rfl (fun _ => rfl) rfl ?_
  refine ex_go (S := (4, [(3, .inl s), (2, .inl 0), (0, gx_r 383), (1, .inl s)], [], t0, n, 0)) rfl (fun _ => rfl) rfl ?_
  exact ex_imp (fun o9 h9 => by
    obtain ⟨v, t1, h8, h7⟩ := h9
    exact ⟨_, h8, v, t1, rfl, h7⟩) (wv_l d n hfh hf L s [] _ t0 hc hs hv hr (by decide) g0 (fun c i h => rfl) trivial rfl rfl rfl)
/-- no less than 0, no more than mo -/
noncomputable def vcl (mo v : Nat) : Nat := if v < 2147483648 then min mo v else 0
theorem vcl_n {mo v : Nat} (h : v < 2147483648) : vcl mo v = min mo v := if_pos h
theorem vcl_0 {mo v : Nat} (h : ¬ v < 2147483648) : vcl mo v = 0 := if_neg h
theorem pv230_val (d n : Nat) {t0 : en_H} {cl : en_L} {mo me ti ou h i s z : Nat} {Q : en_O → Prop} (g0 : ai_HG ah_G t0) (h0 : en_ld cl 0 = some (gx_r 230)) (hm : en_ld cl 1 = some (.inl mo)) (ha : en_ld cl 2 = some (.inl me)) (hb : en_ld cl 3 = some (.inl ti)) (ho4 : en_ld cl 4 = some (.inl ou)) (h5 : en_ld cl 5 = some (.inl h)) (h6 : en_ld cl 6 = some (.inl i)) (ks : ai_hv t0 230 2 = some (.inl s)) (hs : s ≤ 1000) (hi : i < s) (hh : h ≤ 25) (hme : me < 4294967296) (hti : ti < 4294967296) (hou : ou < 4294967296) (hz : z < 2147483648 ∨ z = 4294967286 ∨ z = 4294967287 ∨ z = 4294967285) (kz : ai_hv t0 232 i = some (.inl z)) (hh2 : h < 25) (hQ : ∀ cl' t', ai_HG ah_G t' → (∀ c j, ¬ (c = 231 ∧ j = h) → ai_hv t' c j = ai_hv t0 c j) → ai_hv t' 231 (h) = some (.inl (vpt me ti ou z)) → en_ld cl' 0 = some (gx_r 230) → en_ld cl' 1 = some (.inl mo) → en_ld cl' 2 = some (.inl me) → en_ld cl' 3 = some (.inl ti) → en_ld cl' 4 = some (.inl ou) → en_ld cl' 5 = some (.inl (h + 1)) → en_ld cl' 6 = some (.inl (i + 1)) → en_ex none (en_u (d + 1)) (en_code 210) (fun _ => false) (6, cl', [], t', n, 0) Q) : en_ex none (en_u (d + 1)) (en_code 210) (fun _ => false) (6, cl, [], t0, n, 0) Q := by
  rcases hz with hz | rfl | rfl | rfl
  · refine gx_ld (i := 6) (d := 0) (v := .inl i) rfl (fun _ => rfl) h6 rfl rfl ?_
    refine gx_ld (i := 0) (d := 2) (v := gx_r 230) rfl (fun _ => rfl) h0 rfl rfl ?_
    refine gxo_get (a := 230) rfl g0 rfl rfl ks rfl ?_
    refine gx_2f (c := .ge) rfl (by first | decide | omega) (by first | decide | omega) (show ¬ (s ≤ i) from by omega) rfl ?_
    refine gx_ld (i := 0) (d := 2) (v := gx_r 230) rfl (fun _ => rfl) h0 rfl rfl ?_
    refine gxo_ref (a := 230) (c := 232) rfl g0 rfl rfl rfl rfl rfl ?_
    refine gx_ld (i := 6) (d := 0) (v := .inl i) rfl (fun _ => rfl) h6 rfl rfl ?_
    refine gx_ag (v := .inl z) (cb := fun c => Nat.beq c 0) rfl (fun _ => rfl) g0 rfl rfl kz (by first | decide | omega) rfl ?_
    refine gx_sto (i := 7) (d := 0) rfl (fun _ => rfl) rfl rfl (fun l1 hl1 ml1 => ?_)
    have l1_0 : en_ld l1 0 = some (gx_r 230) := ml1 0 _ h0 rfl
    have l1_1 : en_ld l1 1 = some (.inl mo) := ml1 1 _ hm rfl
    have l1_2 : en_ld l1 2 = some (.inl me) := ml1 2 _ ha rfl
    have l1_3 : en_ld l1 3 = some (.inl ti) := ml1 3 _ hb rfl
    have l1_4 : en_ld l1 4 = some (.inl ou) := ml1 4 _ ho4 rfl
    have l1_5 : en_ld l1 5 = some (.inl h) := ml1 5 _ h5 rfl
    have l1_6 : en_ld l1 6 = some (.inl i) := ml1 6 _ h6 rfl
    refine gx_ld (i := 7) (d := 0) (v := .inl z) rfl (fun _ => rfl) hl1 rfl rfl ?_
    refine ex_go (S := (27, l1, [.inl 4294967295, .inl z], t0, n, 0)) rfl (fun _ => rfl) rfl ?_
    refine gx_2mt (c := .ne) rfl (by first | decide | omega) rfl rfl ?_
    refine gx_ld (i := 7) (d := 0) (v := .inl z) rfl (fun _ => rfl) hl1 rfl rfl ?_
    refine gx_1t (c := .ge) rfl (by first | decide | omega) (show 0 ≤ z from by omega) rfl ?_
    refine gx_ld (i := 5) (d := 0) (v := .inl h) rfl (fun _ => rfl) l1_5 rfl rfl ?_
    refine gx_ld (i := 0) (d := 2) (v := gx_r 230) rfl (fun _ => rfl) l1_0 rfl rfl ?_
    refine gxo_ref (a := 230) (c := 231) rfl g0 rfl rfl rfl rfl rfl ?_
    refine gx_alen (a := 231) (m := 25) rfl g0 rfl rfl rfl ?_
    refine gx_2f (c := .ge) rfl (by first | decide | omega) (by first | decide | omega) (show ¬ (25 ≤ h) from by omega) rfl ?_
    refine gx_ld (i := 0) (d := 2) (v := gx_r 230) rfl (fun _ => rfl) l1_0 rfl rfl ?_
    refine gxo_ref (a := 230) (c := 231) rfl g0 rfl rfl rfl rfl rfl ?_
    refine gx_ld (i := 5) (d := 0) (v := .inl h) rfl (fun _ => rfl) l1_5 rfl rfl ?_
    refine gx_ld (i := 7) (d := 0) (v := .inl z) rfl (fun _ => rfl) hl1 rfl rfl ?_
    refine gx_ld (i := 2) (d := 0) (v := .inl me) rfl (fun _ => rfl) l1_2 rfl rfl ?_
    refine gx_ld (i := 3) (d := 0) (v := .inl ti) rfl (fun _ => rfl) l1_3 rfl rfl ?_
    refine gx_ld (i := 4) (d := 0) (v := .inl ou) rfl (fun _ => rfl) l1_4 rfl rfl ?_
    have hvp : vpt me ti ou z < 4294967296 := vpt_lt hme hti hou (by first | decide | omega)
    refine ex_stat rfl rfl rfl rfl rfl (pc_part d n (t0 := t0) (z := z) (me := me) (ti := ti) (ou := ou) (by first | decide | omega)) (Nat.le_refl _) rfl ?_
    show en_ex _ _ _ _ (143, l1, [.inl (vpt me ti ou z), .inl h, gx_r 231], t0, n, 0) _
    refine gx_ap rfl (fun _ => rfl) g0 rfl rfl rfl (show h < 25 from by omega) (gx_run1 (show h < 25 from by omega)) (gx_full (by first | decide | omega)) rfl (fun t102 g102 k102 e102 => ?_)
    have k3 : ai_hv t102 230 2 = some (.inl s) := (e102 230 2 (by first | decide | omega)).trans ks
    have k4 : ai_hv t102 232 i = some (.inl z) := (e102 232 i (by first | decide | omega)).trans kz
    refine gx_incS (i := 5) (a := h) (x := 1) rfl (fun _ => rfl) l1_5 (by first | decide | omega) rfl (fun l5 hl5 ml5 => ?_)
    have l5_0 : en_ld l5 0 = some (gx_r 230) := ml5 0 _ l1_0 rfl
    have l5_1 : en_ld l5 1 = some (.inl mo) := ml5 1 _ l1_1 rfl
    have l5_2 : en_ld l5 2 = some (.inl me) := ml5 2 _ l1_2 rfl
    have l5_3 : en_ld l5 3 = some (.inl ti) := ml5 3 _ l1_3 rfl
    have l5_4 : en_ld l5 4 = some (.inl ou) := ml5 4 _ l1_4 rfl
    have l5_6 : en_ld l5 6 = some (.inl i) := ml5 6 _ l1_6 rfl
    have l5_7 : en_ld l5 7 = some (.inl z) := ml5 7 _ hl1 rfl
    refine gx_incS (i := 6) (a := i) (x := 1) rfl (fun _ => rfl) l5_6 (by first | decide | omega) rfl (fun l6 hl6 ml6 => ?_)
    have l6_0 : en_ld l6 0 = some (gx_r 230) := ml6 0 _ l5_0 rfl
    have l6_1 : en_ld l6 1 = some (.inl mo) := ml6 1 _ l5_1 rfl
    have l6_2 : en_ld l6 2 = some (.inl me) := ml6 2 _ l5_2 rfl
    have l6_3 : en_ld l6 3 = some (.inl ti) := ml6 3 _ l5_3 rfl
    have l6_4 : en_ld l6 4 = some (.inl ou) := ml6 4 _ l5_4 rfl
    have l6_7 : en_ld l6 7 = some (.inl z) := ml6 7 _ l5_7 rfl
    have l6_5 : en_ld l6 5 = some (.inl (h + 1)) := ml6 5 _ hl5 rfl
    refine ex_go (S := (6, l6, [], t102, n, 0)) rfl (fun _ => rfl) rfl ?_
    exact hQ _ t102 g102 (fun c j h9 => e102 c j (by first | decide | omega)) k102 l6_0 l6_1 l6_2 l6_3 l6_4 l6_5 hl6
  · refine gx_ld (i := 6) (d := 0) (v := .inl i) rfl (fun _ => rfl) h6 rfl rfl ?_
    refine gx_ld (i := 0) (d := 2) (v := gx_r 230) rfl (fun _ => rfl) h0 rfl rfl ?_
    refine gxo_get (a := 230) rfl g0 rfl rfl ks rfl ?_
    refine gx_2f (c := .ge) rfl (by first | decide | omega) (by first | decide | omega) (show ¬ (s ≤ i) from by omega) rfl ?_
    refine gx_ld (i := 0) (d := 2) (v := gx_r 230) rfl (fun _ => rfl) h0 rfl rfl ?_
    refine gxo_ref (a := 230) (c := 232) rfl g0 rfl rfl rfl rfl rfl ?_
    refine gx_ld (i := 6) (d := 0) (v := .inl i) rfl (fun _ => rfl) h6 rfl rfl ?_
    refine gx_ag (v := .inl 4294967286) (cb := fun c => Nat.beq c 0) rfl (fun _ => rfl) g0 rfl rfl kz (by first | decide | omega) rfl ?_
    refine gx_sto (i := 7) (d := 0) rfl (fun _ => rfl) rfl rfl (fun l1 hl1 ml1 => ?_)
    have l1_0 : en_ld l1 0 = some (gx_r 230) := ml1 0 _ h0 rfl
    have l1_1 : en_ld l1 1 = some (.inl mo) := ml1 1 _ hm rfl
    have l1_2 : en_ld l1 2 = some (.inl me) := ml1 2 _ ha rfl
    have l1_3 : en_ld l1 3 = some (.inl ti) := ml1 3 _ hb rfl
    have l1_4 : en_ld l1 4 = some (.inl ou) := ml1 4 _ ho4 rfl
    have l1_5 : en_ld l1 5 = some (.inl h) := ml1 5 _ h5 rfl
    have l1_6 : en_ld l1 6 = some (.inl i) := ml1 6 _ h6 rfl
    refine gx_ld (i := 7) (d := 0) (v := .inl 4294967286) rfl (fun _ => rfl) hl1 rfl rfl ?_
    refine ex_go (S := (27, l1, [.inl 4294967295, .inl 4294967286], t0, n, 0)) rfl (fun _ => rfl) rfl ?_
    refine ex_go (S := (64, l1, [], t0, n, 0)) rfl (fun _ => rfl) rfl ?_
    refine gx_ld (i := 7) (d := 0) (v := .inl 4294967286) rfl (fun _ => rfl) hl1 rfl rfl ?_
    refine ex_go (S := (69, l1, [], t0, n, 0)) rfl (fun _ => rfl) rfl ?_
    refine gx_ld (i := 7) (d := 0) (v := .inl 4294967286) rfl (fun _ => rfl) hl1 rfl rfl ?_
    refine ex_go (S := (73, l1, [.inl 4294967288, .inl 4294967286], t0, n, 0)) rfl (fun _ => rfl) rfl ?_
    refine ex_go (S := (118, l1, [], t0, n, 0)) rfl (fun _ => rfl) rfl ?_
    refine gx_ld (i := 5) (d := 0) (v := .inl h) rfl (fun _ => rfl) l1_5 rfl rfl ?_
    refine gx_ld (i := 0) (d := 2) (v := gx_r 230) rfl (fun _ => rfl) l1_0 rfl rfl ?_
    refine gxo_ref (a := 230) (c := 231) rfl g0 rfl rfl rfl rfl rfl ?_
    refine gx_alen (a := 231) (m := 25) rfl g0 rfl rfl rfl ?_
    refine gx_2f (c := .ge) rfl (by first | decide | omega) (by first | decide | omega) (show ¬ (25 ≤ h) from by omega) rfl ?_
    refine gx_ld (i := 0) (d := 2) (v := gx_r 230) rfl (fun _ => rfl) l1_0 rfl rfl ?_
    refine gxo_ref (a := 230) (c := 231) rfl g0 rfl rfl rfl rfl rfl ?_
    refine gx_ld (i := 5) (d := 0) (v := .inl h) rfl (fun _ => rfl) l1_5 rfl rfl ?_
    refine gx_ld (i := 7) (d := 0) (v := .inl 4294967286) rfl (fun _ => rfl) hl1 rfl rfl ?_
    refine gx_ld (i := 2) (d := 0) (v := .inl me) rfl (fun _ => rfl) l1_2 rfl rfl ?_
    refine gx_ld (i := 3) (d := 0) (v := .inl ti) rfl (fun _ => rfl) l1_3 rfl rfl ?_
    refine gx_ld (i := 4) (d := 0) (v := .inl ou) rfl (fun _ => rfl) l1_4 rfl rfl ?_
    have hvp : vpt me ti ou 4294967286 < 4294967296 := vpt_lt hme hti hou (by first | decide | omega)
    refine ex_stat rfl rfl rfl rfl rfl (pc_part d n (t0 := t0) (z := 4294967286) (me := me) (ti := ti) (ou := ou) (by first | decide | omega)) (Nat.le_refl _) rfl ?_
    show en_ex _ _ _ _ (143, l1, [.inl (vpt me ti ou 4294967286), .inl h, gx_r 231], t0, n, 0) _
    refine gx_ap rfl (fun _ => rfl) g0 rfl rfl rfl (show h < 25 from by omega) (gx_run1 (show h < 25 from by omega)) (gx_full (by first | decide | omega)) rfl (fun t102 g102 k102 e102 => ?_)
    have k3 : ai_hv t102 230 2 = some (.inl s) := (e102 230 2 (by first | decide | omega)).trans ks
    have k4 : ai_hv t102 232 i = some (.inl 4294967286) := (e102 232 i (by first | decide | omega)).trans kz
    refine gx_incS (i := 5) (a := h) (x := 1) rfl (fun _ => rfl) l1_5 (by first | decide | omega) rfl (fun l5 hl5 ml5 => ?_)
    have l5_0 : en_ld l5 0 = some (gx_r 230) := ml5 0 _ l1_0 rfl
    have l5_1 : en_ld l5 1 = some (.inl mo) := ml5 1 _ l1_1 rfl
    have l5_2 : en_ld l5 2 = some (.inl me) := ml5 2 _ l1_2 rfl
    have l5_3 : en_ld l5 3 = some (.inl ti) := ml5 3 _ l1_3 rfl
    have l5_4 : en_ld l5 4 = some (.inl ou) := ml5 4 _ l1_4 rfl
    have l5_6 : en_ld l5 6 = some (.inl i) := ml5 6 _ l1_6 rfl
    have l5_7 : en_ld l5 7 = some (.inl 4294967286) := ml5 7 _ hl1 rfl
    refine gx_incS (i := 6) (a := i) (x := 1) rfl (fun _ => rfl) l5_6 (by first | decide | omega) rfl (fun l6 hl6 ml6 => ?_)
    have l6_0 : en_ld l6 0 = some (gx_r 230) := ml6 0 _ l5_0 rfl
    have l6_1 : en_ld l6 1 = some (.inl mo) := ml6 1 _ l5_1 rfl
    have l6_2 : en_ld l6 2 = some (.inl me) := ml6 2 _ l5_2 rfl
    have l6_3 : en_ld l6 3 = some (.inl ti) := ml6 3 _ l5_3 rfl
    have l6_4 : en_ld l6 4 = some (.inl ou) := ml6 4 _ l5_4 rfl
    have l6_7 : en_ld l6 7 = some (.inl 4294967286) := ml6 7 _ l5_7 rfl
    have l6_5 : en_ld l6 5 = some (.inl (h + 1)) := ml6 5 _ hl5 rfl
    refine ex_go (S := (6, l6, [], t102, n, 0)) rfl (fun _ => rfl) rfl ?_
    exact hQ _ t102 g102 (fun c j h9 => e102 c j (by first | decide | omega)) k102 l6_0 l6_1 l6_2 l6_3 l6_4 l6_5 hl6
  · refine gx_ld (i := 6) (d := 0) (v := .inl i) rfl (fun _ => rfl) h6 rfl rfl ?_
    refine gx_ld (i := 0) (d := 2) (v := gx_r 230) rfl (fun _ => rfl) h0 rfl rfl ?_
    refine gxo_get (a := 230) rfl g0 rfl rfl ks rfl ?_
    refine gx_2f (c := .ge) rfl (by first | decide | omega) (by first | decide | omega) (show ¬ (s ≤ i) from by omega) rfl ?_
    refine gx_ld (i := 0) (d := 2) (v := gx_r 230) rfl (fun _ => rfl) h0 rfl rfl ?_
    refine gxo_ref (a := 230) (c := 232) rfl g0 rfl rfl rfl rfl rfl ?_
    refine gx_ld (i := 6) (d := 0) (v := .inl i) rfl (fun _ => rfl) h6 rfl rfl ?_
    refine gx_ag (v := .inl 4294967287) (cb := fun c => Nat.beq c 0) rfl (fun _ => rfl) g0 rfl rfl kz (by first | decide | omega) rfl ?_
    refine gx_sto (i := 7) (d := 0) rfl (fun _ => rfl) rfl rfl (fun l1 hl1 ml1 => ?_)
    have l1_0 : en_ld l1 0 = some (gx_r 230) := ml1 0 _ h0 rfl
    have l1_1 : en_ld l1 1 = some (.inl mo) := ml1 1 _ hm rfl
    have l1_2 : en_ld l1 2 = some (.inl me) := ml1 2 _ ha rfl
    have l1_3 : en_ld l1 3 = some (.inl ti) := ml1 3 _ hb rfl
    have l1_4 : en_ld l1 4 = some (.inl ou) := ml1 4 _ ho4 rfl
    have l1_5 : en_ld l1 5 = some (.inl h) := ml1 5 _ h5 rfl
    have l1_6 : en_ld l1 6 = some (.inl i) := ml1 6 _ h6 rfl
    refine gx_ld (i := 7) (d := 0) (v := .inl 4294967287) rfl (fun _ => rfl) hl1 rfl rfl ?_
    refine ex_go (S := (27, l1, [.inl 4294967295, .inl 4294967287], t0, n, 0)) rfl (fun _ => rfl) rfl ?_
    refine ex_go (S := (64, l1, [], t0, n, 0)) rfl (fun _ => rfl) rfl ?_
    refine gx_ld (i := 7) (d := 0) (v := .inl 4294967287) rfl (fun _ => rfl) hl1 rfl rfl ?_
    refine ex_go (S := (69, l1, [], t0, n, 0)) rfl (fun _ => rfl) rfl ?_
    refine gx_ld (i := 7) (d := 0) (v := .inl 4294967287) rfl (fun _ => rfl) hl1 rfl rfl ?_
    refine ex_go (S := (73, l1, [.inl 4294967288, .inl 4294967287], t0, n, 0)) rfl (fun _ => rfl) rfl ?_
    refine ex_go (S := (118, l1, [], t0, n, 0)) rfl (fun _ => rfl) rfl ?_
    refine gx_ld (i := 5) (d := 0) (v := .inl h) rfl (fun _ => rfl) l1_5 rfl rfl ?_
    refine gx_ld (i := 0) (d := 2) (v := gx_r 230) rfl (fun _ => rfl) l1_0 rfl rfl ?_
    refine gxo_ref (a := 230) (c := 231) rfl g0 rfl rfl rfl rfl rfl ?_
    refine gx_alen (a := 231) (m := 25) rfl g0 rfl rfl rfl ?_
    refine gx_2f (c := .ge) rfl (by first | decide | omega) (by first | decide | omega) (show ¬ (25 ≤ h) from by omega) rfl ?_
    refine gx_ld (i := 0) (d := 2) (v := gx_r 230) rfl (fun _ => rfl) l1_0 rfl rfl ?_
    refine gxo_ref (a := 230) (c := 231) rfl g0 rfl rfl rfl rfl rfl ?_
    refine gx_ld (i := 5) (d := 0) (v := .inl h) rfl (fun _ => rfl) l1_5 rfl rfl ?_
    refine gx_ld (i := 7) (d := 0) (v := .inl 4294967287) rfl (fun _ => rfl) hl1 rfl rfl ?_
    refine gx_ld (i := 2) (d := 0) (v := .inl me) rfl (fun _ => rfl) l1_2 rfl rfl ?_
    refine gx_ld (i := 3) (d := 0) (v := .inl ti) rfl (fun _ => rfl) l1_3 rfl rfl ?_
    refine gx_ld (i := 4) (d := 0) (v := .inl ou) rfl (fun _ => rfl) l1_4 rfl rfl ?_
    have hvp : vpt me ti ou 4294967287 < 4294967296 := vpt_lt hme hti hou (by first | decide | omega)
    refine ex_stat rfl rfl rfl rfl rfl (pc_part d n (t0 := t0) (z := 4294967287) (me := me) (ti := ti) (ou := ou) (by first | decide | omega)) (Nat.le_refl _) rfl ?_
    show en_ex _ _ _ _ (143, l1, [.inl (vpt me ti ou 4294967287), .inl h, gx_r 231], t0, n, 0) _
    refine gx_ap rfl (fun _ => rfl) g0 rfl rfl rfl (show h < 25 from by omega) (gx_run1 (show h < 25 from by omega)) (gx_full (by first | decide | omega)) rfl (fun t102 g102 k102 e102 => ?_)
    have k3 : ai_hv t102 230 2 = some (.inl s) := (e102 230 2 (by first | decide | omega)).trans ks
    have k4 : ai_hv t102 232 i = some (.inl 4294967287) := (e102 232 i (by first | decide | omega)).trans kz
    refine gx_incS (i := 5) (a := h) (x := 1) rfl (fun _ => rfl) l1_5 (by first | decide | omega) rfl (fun l5 hl5 ml5 => ?_)
    have l5_0 : en_ld l5 0 = some (gx_r 230) := ml5 0 _ l1_0 rfl
    have l5_1 : en_ld l5 1 = some (.inl mo) := ml5 1 _ l1_1 rfl
    have l5_2 : en_ld l5 2 = some (.inl me) := ml5 2 _ l1_2 rfl
    have l5_3 : en_ld l5 3 = some (.inl ti) := ml5 3 _ l1_3 rfl
    have l5_4 : en_ld l5 4 = some (.inl ou) := ml5 4 _ l1_4 rfl
    have l5_6 : en_ld l5 6 = some (.inl i) := ml5 6 _ l1_6 rfl
    have l5_7 : en_ld l5 7 = some (.inl 4294967287) := ml5 7 _ hl1 rfl
    refine gx_incS (i := 6) (a := i) (x := 1) rfl (fun _ => rfl) l5_6 (by first | decide | omega) rfl (fun l6 hl6 ml6 => ?_)
    have l6_0 : en_ld l6 0 = some (gx_r 230) := ml6 0 _ l5_0 rfl
    have l6_1 : en_ld l6 1 = some (.inl mo) := ml6 1 _ l5_1 rfl
    have l6_2 : en_ld l6 2 = some (.inl me) := ml6 2 _ l5_2 rfl
    have l6_3 : en_ld l6 3 = some (.inl ti) := ml6 3 _ l5_3 rfl
    have l6_4 : en_ld l6 4 = some (.inl ou) := ml6 4 _ l5_4 rfl
    have l6_7 : en_ld l6 7 = some (.inl 4294967287) := ml6 7 _ l5_7 rfl
    have l6_5 : en_ld l6 5 = some (.inl (h + 1)) := ml6 5 _ hl5 rfl
    refine ex_go (S := (6, l6, [], t102, n, 0)) rfl (fun _ => rfl) rfl ?_
    exact hQ _ t102 g102 (fun c j h9 => e102 c j (by first | decide | omega)) k102 l6_0 l6_1 l6_2 l6_3 l6_4 l6_5 hl6
  · refine gx_ld (i := 6) (d := 0) (v := .inl i) rfl (fun _ => rfl) h6 rfl rfl ?_
    refine gx_ld (i := 0) (d := 2) (v := gx_r 230) rfl (fun _ => rfl) h0 rfl rfl ?_
    refine gxo_get (a := 230) rfl g0 rfl rfl ks rfl ?_
    refine gx_2f (c := .ge) rfl (by first | decide | omega) (by first | decide | omega) (show ¬ (s ≤ i) from by omega) rfl ?_
    refine gx_ld (i := 0) (d := 2) (v := gx_r 230) rfl (fun _ => rfl) h0 rfl rfl ?_
    refine gxo_ref (a := 230) (c := 232) rfl g0 rfl rfl rfl rfl rfl ?_
    refine gx_ld (i := 6) (d := 0) (v := .inl i) rfl (fun _ => rfl) h6 rfl rfl ?_
    refine gx_ag (v := .inl 4294967285) (cb := fun c => Nat.beq c 0) rfl (fun _ => rfl) g0 rfl rfl kz (by first | decide | omega) rfl ?_
    refine gx_sto (i := 7) (d := 0) rfl (fun _ => rfl) rfl rfl (fun l1 hl1 ml1 => ?_)
    have l1_0 : en_ld l1 0 = some (gx_r 230) := ml1 0 _ h0 rfl
    have l1_1 : en_ld l1 1 = some (.inl mo) := ml1 1 _ hm rfl
    have l1_2 : en_ld l1 2 = some (.inl me) := ml1 2 _ ha rfl
    have l1_3 : en_ld l1 3 = some (.inl ti) := ml1 3 _ hb rfl
    have l1_4 : en_ld l1 4 = some (.inl ou) := ml1 4 _ ho4 rfl
    have l1_5 : en_ld l1 5 = some (.inl h) := ml1 5 _ h5 rfl
    have l1_6 : en_ld l1 6 = some (.inl i) := ml1 6 _ h6 rfl
    refine gx_ld (i := 7) (d := 0) (v := .inl 4294967285) rfl (fun _ => rfl) hl1 rfl rfl ?_
    refine ex_go (S := (27, l1, [.inl 4294967295, .inl 4294967285], t0, n, 0)) rfl (fun _ => rfl) rfl ?_
    refine ex_go (S := (64, l1, [], t0, n, 0)) rfl (fun _ => rfl) rfl ?_
    refine gx_ld (i := 7) (d := 0) (v := .inl 4294967285) rfl (fun _ => rfl) hl1 rfl rfl ?_
    refine ex_go (S := (69, l1, [], t0, n, 0)) rfl (fun _ => rfl) rfl ?_
    refine gx_ld (i := 7) (d := 0) (v := .inl 4294967285) rfl (fun _ => rfl) hl1 rfl rfl ?_
    refine ex_go (S := (73, l1, [.inl 4294967288, .inl 4294967285], t0, n, 0)) rfl (fun _ => rfl) rfl ?_
    refine ex_go (S := (118, l1, [], t0, n, 0)) rfl (fun _ => rfl) rfl ?_
    refine gx_ld (i := 5) (d := 0) (v := .inl h) rfl (fun _ => rfl) l1_5 rfl rfl ?_
    refine gx_ld (i := 0) (d := 2) (v := gx_r 230) rfl (fun _ => rfl) l1_0 rfl rfl ?_
    refine gxo_ref (a := 230) (c := 231) rfl g0 rfl rfl rfl rfl rfl ?_
    refine gx_alen (a := 231) (m := 25) rfl g0 rfl rfl rfl ?_
    refine gx_2f (c := .ge) rfl (by first | decide | omega) (by first | decide | omega) (show ¬ (25 ≤ h) from by omega) rfl ?_
    refine gx_ld (i := 0) (d := 2) (v := gx_r 230) rfl (fun _ => rfl) l1_0 rfl rfl ?_
    refine gxo_ref (a := 230) (c := 231) rfl g0 rfl rfl rfl rfl rfl ?_
    refine gx_ld (i := 5) (d := 0) (v := .inl h) rfl (fun _ => rfl) l1_5 rfl rfl ?_
    refine gx_ld (i := 7) (d := 0) (v := .inl 4294967285) rfl (fun _ => rfl) hl1 rfl rfl ?_
    refine gx_ld (i := 2) (d := 0) (v := .inl me) rfl (fun _ => rfl) l1_2 rfl rfl ?_
    refine gx_ld (i := 3) (d := 0) (v := .inl ti) rfl (fun _ => rfl) l1_3 rfl rfl ?_
    refine gx_ld (i := 4) (d := 0) (v := .inl ou) rfl (fun _ => rfl) l1_4 rfl rfl ?_
    have hvp : vpt me ti ou 4294967285 < 4294967296 := vpt_lt hme hti hou (by first | decide | omega)
    refine ex_stat rfl rfl rfl rfl rfl (pc_part d n (t0 := t0) (z := 4294967285) (me := me) (ti := ti) (ou := ou) (by first | decide | omega)) (Nat.le_refl _) rfl ?_
    show en_ex _ _ _ _ (143, l1, [.inl (vpt me ti ou 4294967285), .inl h, gx_r 231], t0, n, 0) _
    refine gx_ap rfl (fun _ => rfl) g0 rfl rfl rfl (show h < 25 from by omega) (gx_run1 (show h < 25 from by omega)) (gx_full (by first | decide | omega)) rfl (fun t102 g102 k102 e102 => ?_)
    have k3 : ai_hv t102 230 2 = some (.inl s) := (e102 230 2 (by first | decide | omega)).trans ks
    have k4 : ai_hv t102 232 i = some (.inl 4294967285) := (e102 232 i (by first | decide | omega)).trans kz
    refine gx_incS (i := 5) (a := h) (x := 1) rfl (fun _ => rfl) l1_5 (by first | decide | omega) rfl (fun l5 hl5 ml5 => ?_)
    have l5_0 : en_ld l5 0 = some (gx_r 230) := ml5 0 _ l1_0 rfl
    have l5_1 : en_ld l5 1 = some (.inl mo) := ml5 1 _ l1_1 rfl
    have l5_2 : en_ld l5 2 = some (.inl me) := ml5 2 _ l1_2 rfl
    have l5_3 : en_ld l5 3 = some (.inl ti) := ml5 3 _ l1_3 rfl
    have l5_4 : en_ld l5 4 = some (.inl ou) := ml5 4 _ l1_4 rfl
    have l5_6 : en_ld l5 6 = some (.inl i) := ml5 6 _ l1_6 rfl
    have l5_7 : en_ld l5 7 = some (.inl 4294967285) := ml5 7 _ hl1 rfl
    refine gx_incS (i := 6) (a := i) (x := 1) rfl (fun _ => rfl) l5_6 (by first | decide | omega) rfl (fun l6 hl6 ml6 => ?_)
    have l6_0 : en_ld l6 0 = some (gx_r 230) := ml6 0 _ l5_0 rfl
    have l6_1 : en_ld l6 1 = some (.inl mo) := ml6 1 _ l5_1 rfl
    have l6_2 : en_ld l6 2 = some (.inl me) := ml6 2 _ l5_2 rfl
    have l6_3 : en_ld l6 3 = some (.inl ti) := ml6 3 _ l5_3 rfl
    have l6_4 : en_ld l6 4 = some (.inl ou) := ml6 4 _ l5_4 rfl
    have l6_7 : en_ld l6 7 = some (.inl 4294967285) := ml6 7 _ l5_7 rfl
    have l6_5 : en_ld l6 5 = some (.inl (h + 1)) := ml6 5 _ hl5 rfl
    refine ex_go (S := (6, l6, [], t102, n, 0)) rfl (fun _ => rfl) rfl ?_
    exact hQ _ t102 g102 (fun c j h9 => e102 c j (by first | decide | omega)) k102 l6_0 l6_1 l6_2 l6_3 l6_4 l6_5 hl6
theorem pv230_not (d n : Nat) {t0 : en_H} {cl : en_L} {mo me ti ou h i s x : Nat} {Q : en_O → Prop} (g0 : ai_HG ah_G t0) (h0 : en_ld cl 0 = some (gx_r 230)) (hm : en_ld cl 1 = some (.inl mo)) (ha : en_ld cl 2 = some (.inl me)) (hb : en_ld cl 3 = some (.inl ti)) (ho4 : en_ld cl 4 = some (.inl ou)) (h5 : en_ld cl 5 = some (.inl h)) (h6 : en_ld cl 6 = some (.inl i)) (ks : ai_hv t0 230 2 = some (.inl s)) (hs : s ≤ 1000) (hi : i < s) (hh : h ≤ 25) (hme : me < 4294967296) (hti : ti < 4294967296) (hou : ou < 4294967296) (kz : ai_hv t0 232 i = some (.inl 4294967295)) (h1 : 1 ≤ h) (kx : ai_hv t0 231 (h - 1) = some (.inl x)) (hx : x < 4294967296) (hQ : ∀ cl' t', ai_HG ah_G t' → (∀ c j, ¬ (c = 231 ∧ j = h - 1) → ai_hv t' c j = ai_hv t0 c j) → ai_hv t' 231 (h - 1) = some (.inl (vnot x)) → en_ld cl' 0 = some (gx_r 230) → en_ld cl' 1 = some (.inl mo) → en_ld cl' 2 = some (.inl me) → en_ld cl' 3 = some (.inl ti) → en_ld cl' 4 = some (.inl ou) → en_ld cl' 5 = some (.inl (h)) → en_ld cl' 6 = some (.inl (i + 1)) → en_ex none (en_u (d + 1)) (en_code 210) (fun _ => false) (6, cl', [], t', n, 0) Q) : en_ex none (en_u (d + 1)) (en_code 210) (fun _ => false) (6, cl, [], t0, n, 0) Q := by
  refine gx_ld (i := 6) (d := 0) (v := .inl i) rfl (fun _ => rfl) h6 rfl rfl ?_
  refine gx_ld (i := 0) (d := 2) (v := gx_r 230) rfl (fun _ => rfl) h0 rfl rfl ?_
  refine gxo_get (a := 230) rfl g0 rfl rfl ks rfl ?_
  refine gx_2f (c := .ge) rfl (by first | decide | omega) (by first | decide | omega) (show ¬ (s ≤ i) from by omega) rfl ?_
  refine gx_ld (i := 0) (d := 2) (v := gx_r 230) rfl (fun _ => rfl) h0 rfl rfl ?_
  refine gxo_ref (a := 230) (c := 232) rfl g0 rfl rfl rfl rfl rfl ?_
  refine gx_ld (i := 6) (d := 0) (v := .inl i) rfl (fun _ => rfl) h6 rfl rfl ?_
  refine gx_ag (v := .inl 4294967295) (cb := fun c => Nat.beq c 0) rfl (fun _ => rfl) g0 rfl rfl kz (by first | decide | omega) rfl ?_
  refine gx_sto (i := 7) (d := 0) rfl (fun _ => rfl) rfl rfl (fun l1 hl1 ml1 => ?_)
  have l1_0 : en_ld l1 0 = some (gx_r 230) := ml1 0 _ h0 rfl
  have l1_1 : en_ld l1 1 = some (.inl mo) := ml1 1 _ hm rfl
  have l1_2 : en_ld l1 2 = some (.inl me) := ml1 2 _ ha rfl
  have l1_3 : en_ld l1 3 = some (.inl ti) := ml1 3 _ hb rfl
  have l1_4 : en_ld l1 4 = some (.inl ou) := ml1 4 _ ho4 rfl
  have l1_5 : en_ld l1 5 = some (.inl h) := ml1 5 _ h5 rfl
  have l1_6 : en_ld l1 6 = some (.inl i) := ml1 6 _ h6 rfl
  refine gx_ld (i := 7) (d := 0) (v := .inl 4294967295) rfl (fun _ => rfl) hl1 rfl rfl ?_
  refine ex_go (S := (27, l1, [.inl 4294967295, .inl 4294967295], t0, n, 0)) rfl (fun _ => rfl) rfl ?_
  refine ex_go (S := (30, l1, [], t0, n, 0)) rfl (fun _ => rfl) rfl ?_
  refine gx_ld (i := 5) (d := 0) (v := .inl h) rfl (fun _ => rfl) l1_5 rfl rfl ?_
  refine gx_1f (c := .le) rfl (by first | decide | omega) (show ¬ (h ≤ 0) from by omega) rfl ?_
  refine gx_ld (i := 0) (d := 2) (v := gx_r 230) rfl (fun _ => rfl) l1_0 rfl rfl ?_
  refine gxo_ref (a := 230) (c := 231) rfl g0 rfl rfl rfl rfl rfl ?_
  refine gx_ld (i := 5) (d := 0) (v := .inl h) rfl (fun _ => rfl) l1_5 rfl rfl ?_
  refine ex_go (S := (42, l1, [.inl 1, .inl h, gx_r 231], t0, n, 0)) rfl (fun _ => rfl) rfl ?_
  refine gx_isub rfl (by first | decide | omega) (by first | decide | omega) rfl ?_
  refine gx_ld (i := 0) (d := 2) (v := gx_r 230) rfl (fun _ => rfl) l1_0 rfl rfl ?_
  refine gxo_ref (a := 230) (c := 231) rfl g0 rfl rfl rfl rfl rfl ?_
  refine gx_ld (i := 5) (d := 0) (v := .inl h) rfl (fun _ => rfl) l1_5 rfl rfl ?_
  refine ex_go (S := (50, l1, [.inl 1, .inl h, gx_r 231, .inl (h - 1), gx_r 231], t0, n, 0)) rfl (fun _ => rfl) rfl ?_
  refine gx_isub rfl (by first | decide | omega) (by first | decide | omega) rfl ?_
  refine gx_ag (v := .inl x) (cb := fun c => Nat.beq c 0) rfl (fun _ => rfl) g0 rfl rfl kx (by first | decide | omega) rfl ?_
  refine gx_1r (c := .ne) rfl (by first | decide | omega) rfl rfl (fun hr2 => ?_) (fun hr2 => ?_)
  · show en_ex _ _ _ _ (59, l1, [.inl (h - 1), gx_r 231], t0, n, 0) _
    refine ex_go (S := (60, l1, [.inl 0, .inl (h - 1), gx_r 231], t0, n, 0)) rfl (fun _ => rfl) rfl ?_
    refine gx_ap rfl (fun _ => rfl) g0 rfl rfl rfl (show h - 1 < 25 from by omega) (gx_run1 (show h - 1 < 25 from by omega)) (gx_full (by first | decide | omega)) rfl (fun t103 g103 k103 e103 => ?_)
    have k4 : ai_hv t103 230 2 = some (.inl s) := (e103 230 2 (by first | decide | omega)).trans ks
    have k5 : ai_hv t103 232 i = some (.inl 4294967295) := (e103 232 i (by first | decide | omega)).trans kz
    refine ex_go (S := (147, l1, [], t103, n, 0)) rfl (fun _ => rfl) rfl ?_
    refine gx_incS (i := 6) (a := i) (x := 1) rfl (fun _ => rfl) l1_6 (by first | decide | omega) rfl (fun l6 hl6 ml6 => ?_)
    have l6_0 : en_ld l6 0 = some (gx_r 230) := ml6 0 _ l1_0 rfl
    have l6_1 : en_ld l6 1 = some (.inl mo) := ml6 1 _ l1_1 rfl
    have l6_2 : en_ld l6 2 = some (.inl me) := ml6 2 _ l1_2 rfl
    have l6_3 : en_ld l6 3 = some (.inl ti) := ml6 3 _ l1_3 rfl
    have l6_4 : en_ld l6 4 = some (.inl ou) := ml6 4 _ l1_4 rfl
    have l6_5 : en_ld l6 5 = some (.inl h) := ml6 5 _ l1_5 rfl
    have l6_7 : en_ld l6 7 = some (.inl 4294967295) := ml6 7 _ hl1 rfl
    refine ex_go (S := (6, l6, [], t103, n, 0)) rfl (fun _ => rfl) rfl ?_
    have hv9 : vnot x = 0 := cif_t hr2
    exact hQ _ t103 g103 (fun c j h9 => e103 c j (by first | decide | omega)) (by rw [hv9]; exact k103) l6_0 l6_1 l6_2 l6_3 l6_4 l6_5 hl6
  · show en_ex _ _ _ _ (55, l1, [.inl (h - 1), gx_r 231], t0, n, 0) _
    refine ex_go (S := (56, l1, [.inl 1, .inl (h - 1), gx_r 231], t0, n, 0)) rfl (fun _ => rfl) rfl ?_
    refine ex_go (S := (60, l1, [.inl 1, .inl (h - 1), gx_r 231], t0, n, 0)) rfl (fun _ => rfl) rfl ?_
    refine gx_ap rfl (fun _ => rfl) g0 rfl rfl rfl (show h - 1 < 25 from by omega) (gx_run1 (show h - 1 < 25 from by omega)) (gx_full (by first | decide | omega)) rfl (fun t107 g107 k107 e107 => ?_)
    have k8 : ai_hv t107 230 2 = some (.inl s) := (e107 230 2 (by first | decide | omega)).trans ks
    have k9 : ai_hv t107 232 i = some (.inl 4294967295) := (e107 232 i (by first | decide | omega)).trans kz
    refine ex_go (S := (147, l1, [], t107, n, 0)) rfl (fun _ => rfl) rfl ?_
    refine gx_incS (i := 6) (a := i) (x := 1) rfl (fun _ => rfl) l1_6 (by first | decide | omega) rfl (fun l10 hl10 ml10 => ?_)
    have l10_0 : en_ld l10 0 = some (gx_r 230) := ml10 0 _ l1_0 rfl
    have l10_1 : en_ld l10 1 = some (.inl mo) := ml10 1 _ l1_1 rfl
    have l10_2 : en_ld l10 2 = some (.inl me) := ml10 2 _ l1_2 rfl
    have l10_3 : en_ld l10 3 = some (.inl ti) := ml10 3 _ l1_3 rfl
    have l10_4 : en_ld l10 4 = some (.inl ou) := ml10 4 _ l1_4 rfl
    have l10_5 : en_ld l10 5 = some (.inl h) := ml10 5 _ l1_5 rfl
    have l10_7 : en_ld l10 7 = some (.inl 4294967295) := ml10 7 _ hl1 rfl
    refine ex_go (S := (6, l10, [], t107, n, 0)) rfl (fun _ => rfl) rfl ?_
    have hv9 : vnot x = 1 := cif_f hr2
    exact hQ _ t107 g107 (fun c j h9 => e107 c j (by first | decide | omega)) (by rw [hv9]; exact k107) l10_0 l10_1 l10_2 l10_3 l10_4 l10_5 hl10
theorem pv230_bin (d n : Nat) {t0 : en_H} {cl : en_L} {mo me ti ou h i s x y z : Nat} {Q : en_O → Prop} (g0 : ai_HG ah_G t0) (h0 : en_ld cl 0 = some (gx_r 230)) (hm : en_ld cl 1 = some (.inl mo)) (ha : en_ld cl 2 = some (.inl me)) (hb : en_ld cl 3 = some (.inl ti)) (ho4 : en_ld cl 4 = some (.inl ou)) (h5 : en_ld cl 5 = some (.inl h)) (h6 : en_ld cl 6 = some (.inl i)) (ks : ai_hv t0 230 2 = some (.inl s)) (hs : s ≤ 1000) (hi : i < s) (hh : h ≤ 25) (hme : me < 4294967296) (hti : ti < 4294967296) (hou : ou < 4294967296) (hz : z = 4294967290 ∨ z = 4294967289 ∨ z = 4294967288 ∨ z = 4294967292 ∨ z = 4294967291 ∨ z = 4294967294 ∨ z = 4294967293) (kz : ai_hv t0 232 i = some (.inl z)) (h1 : 2 ≤ h) (ky : ai_hv t0 231 (h - 1) = some (.inl y)) (hy : y < 4294967296) (kx : ai_hv t0 231 (h - 1 - 1) = some (.inl x)) (hx : x < 4294967296) (hQ : ∀ cl' t', ai_HG ah_G t' → (∀ c j, ¬ (c = 231 ∧ j = h - 1 - 1) → ai_hv t' c j = ai_hv t0 c j) → ai_hv t' 231 (h - 1 - 1) = some (.inl (vb (opm z) x y)) → en_ld cl' 0 = some (gx_r 230) → en_ld cl' 1 = some (.inl mo) → en_ld cl' 2 = some (.inl me) → en_ld cl' 3 = some (.inl ti) → en_ld cl' 4 = some (.inl ou) → en_ld cl' 5 = some (.inl (h - 1)) → en_ld cl' 6 = some (.inl (i + 1)) → en_ex none (en_u (d + 1)) (en_code 210) (fun _ => false) (6, cl', [], t', n, 0) Q) : en_ex none (en_u (d + 1)) (en_code 210) (fun _ => false) (6, cl, [], t0, n, 0) Q := by
  rcases hz with rfl | rfl | rfl | rfl | rfl | rfl | rfl
  · refine gx_ld (i := 6) (d := 0) (v := .inl i) rfl (fun _ => rfl) h6 rfl rfl ?_
    refine gx_ld (i := 0) (d := 2) (v := gx_r 230) rfl (fun _ => rfl) h0 rfl rfl ?_
    refine gxo_get (a := 230) rfl g0 rfl rfl ks rfl ?_
    refine gx_2f (c := .ge) rfl (by first | decide | omega) (by first | decide | omega) (show ¬ (s ≤ i) from by omega) rfl ?_
    refine gx_ld (i := 0) (d := 2) (v := gx_r 230) rfl (fun _ => rfl) h0 rfl rfl ?_
    refine gxo_ref (a := 230) (c := 232) rfl g0 rfl rfl rfl rfl rfl ?_
    refine gx_ld (i := 6) (d := 0) (v := .inl i) rfl (fun _ => rfl) h6 rfl rfl ?_
    refine gx_ag (v := .inl 4294967290) (cb := fun c => Nat.beq c 0) rfl (fun _ => rfl) g0 rfl rfl kz (by first | decide | omega) rfl ?_
    refine gx_sto (i := 7) (d := 0) rfl (fun _ => rfl) rfl rfl (fun l1 hl1 ml1 => ?_)
    have l1_0 : en_ld l1 0 = some (gx_r 230) := ml1 0 _ h0 rfl
    have l1_1 : en_ld l1 1 = some (.inl mo) := ml1 1 _ hm rfl
    have l1_2 : en_ld l1 2 = some (.inl me) := ml1 2 _ ha rfl
    have l1_3 : en_ld l1 3 = some (.inl ti) := ml1 3 _ hb rfl
    have l1_4 : en_ld l1 4 = some (.inl ou) := ml1 4 _ ho4 rfl
    have l1_5 : en_ld l1 5 = some (.inl h) := ml1 5 _ h5 rfl
    have l1_6 : en_ld l1 6 = some (.inl i) := ml1 6 _ h6 rfl
    refine gx_ld (i := 7) (d := 0) (v := .inl 4294967290) rfl (fun _ => rfl) hl1 rfl rfl ?_
    refine ex_go (S := (27, l1, [.inl 4294967295, .inl 4294967290], t0, n, 0)) rfl (fun _ => rfl) rfl ?_
    refine ex_go (S := (64, l1, [], t0, n, 0)) rfl (fun _ => rfl) rfl ?_
    refine gx_ld (i := 7) (d := 0) (v := .inl 4294967290) rfl (fun _ => rfl) hl1 rfl rfl ?_
    refine ex_go (S := (69, l1, [], t0, n, 0)) rfl (fun _ => rfl) rfl ?_
    refine gx_ld (i := 7) (d := 0) (v := .inl 4294967290) rfl (fun _ => rfl) hl1 rfl rfl ?_
    refine ex_go (S := (73, l1, [.inl 4294967288, .inl 4294967290], t0, n, 0)) rfl (fun _ => rfl) rfl ?_
    refine ex_go (S := (76, l1, [], t0, n, 0)) rfl (fun _ => rfl) rfl ?_
    refine gx_ld (i := 5) (d := 0) (v := .inl h) rfl (fun _ => rfl) l1_5 rfl rfl ?_
    refine ex_go (S := (79, l1, [.inl 1, .inl h], t0, n, 0)) rfl (fun _ => rfl) rfl ?_
    refine gx_2f (c := .le) rfl (by first | decide | omega) (by first | decide | omega) (show ¬ (h ≤ 1) from by omega) rfl ?_
    refine gx_decS (i := 5) (a := h) rfl (fun _ => rfl) l1_5 (by first | decide | omega) (by first | decide | omega) rfl (fun l2 hl2 ml2 => ?_)
    have l2_0 : en_ld l2 0 = some (gx_r 230) := ml2 0 _ l1_0 rfl
    have l2_1 : en_ld l2 1 = some (.inl mo) := ml2 1 _ l1_1 rfl
    have l2_2 : en_ld l2 2 = some (.inl me) := ml2 2 _ l1_2 rfl
    have l2_3 : en_ld l2 3 = some (.inl ti) := ml2 3 _ l1_3 rfl
    have l2_4 : en_ld l2 4 = some (.inl ou) := ml2 4 _ l1_4 rfl
    have l2_6 : en_ld l2 6 = some (.inl i) := ml2 6 _ l1_6 rfl
    have l2_7 : en_ld l2 7 = some (.inl 4294967290) := ml2 7 _ hl1 rfl
    refine gx_ld (i := 0) (d := 2) (v := gx_r 230) rfl (fun _ => rfl) l2_0 rfl rfl ?_
    refine gxo_ref (a := 230) (c := 231) rfl g0 rfl rfl rfl rfl rfl ?_
    refine gx_ld (i := 5) (d := 0) (v := .inl (h - 1)) rfl (fun _ => rfl) hl2 rfl rfl ?_
    refine ex_go (S := (92, l2, [.inl 1, .inl (h - 1), gx_r 231], t0, n, 0)) rfl (fun _ => rfl) rfl ?_
    refine gx_isub rfl (by first | decide | omega) (by first | decide | omega) rfl ?_
    refine gx_ld (i := 7) (d := 0) (v := .inl 4294967290) rfl (fun _ => rfl) l2_7 rfl rfl ?_
    refine gx_ld (i := 0) (d := 2) (v := gx_r 230) rfl (fun _ => rfl) l2_0 rfl rfl ?_
    refine gxo_ref (a := 230) (c := 231) rfl g0 rfl rfl rfl rfl rfl ?_
    refine gx_ld (i := 5) (d := 0) (v := .inl (h - 1)) rfl (fun _ => rfl) hl2 rfl rfl ?_
    refine ex_go (S := (102, l2, [.inl 1, .inl (h - 1), gx_r 231, .inl 4294967290, .inl ((h - 1) - 1), gx_r 231], t0, n, 0)) rfl (fun _ => rfl) rfl ?_
    refine gx_isub rfl (by first | decide | omega) (by first | decide | omega) rfl ?_
    refine gx_ag (v := .inl x) (cb := fun c => Nat.beq c 0) rfl (fun _ => rfl) g0 rfl rfl kx (by first | decide | omega) rfl ?_
    refine gx_ld (i := 0) (d := 2) (v := gx_r 230) rfl (fun _ => rfl) l2_0 rfl rfl ?_
    refine gxo_ref (a := 230) (c := 231) rfl g0 rfl rfl rfl rfl rfl ?_
    refine gx_ld (i := 5) (d := 0) (v := .inl (h - 1)) rfl (fun _ => rfl) hl2 rfl rfl ?_
    refine gx_ag (v := .inl y) (cb := fun c => Nat.beq c 0) rfl (fun _ => rfl) g0 rfl rfl ky (by first | decide | omega) rfl ?_
    have hvb := vb_lt (o := opm 4294967290) (a := x) (b := y)
    refine ex_stat rfl rfl rfl rfl rfl (pc_joined d n (t0 := t0) (z := 4294967290) (x := x) (y := y) (by first | decide | omega) (by first | decide | omega) (by first | decide | omega)) (Nat.le_refl _) rfl ?_
    show en_ex _ _ _ _ (114, l2, [.inl (vb (opm 4294967290) x y), .inl ((h - 1) - 1), gx_r 231], t0, n, 0) _
    refine gx_ap rfl (fun _ => rfl) g0 rfl rfl rfl (show (h - 1) - 1 < 25 from by omega) (gx_run1 (show (h - 1) - 1 < 25 from by omega)) (gx_full (by first | decide | omega)) rfl (fun t103 g103 k103 e103 => ?_)
    have k4 : ai_hv t103 231 (h - 1) = some (.inl y) := (e103 231 (h - 1) (by first | decide | omega)).trans ky
    have k5 : ai_hv t103 230 2 = some (.inl s) := (e103 230 2 (by first | decide | omega)).trans ks
    have k6 : ai_hv t103 232 i = some (.inl 4294967290) := (e103 232 i (by first | decide | omega)).trans kz
    refine ex_go (S := (147, l2, [], t103, n, 0)) rfl (fun _ => rfl) rfl ?_
    refine gx_incS (i := 6) (a := i) (x := 1) rfl (fun _ => rfl) l2_6 (by first | decide | omega) rfl (fun l7 hl7 ml7 => ?_)
    have l7_0 : en_ld l7 0 = some (gx_r 230) := ml7 0 _ l2_0 rfl
    have l7_1 : en_ld l7 1 = some (.inl mo) := ml7 1 _ l2_1 rfl
    have l7_2 : en_ld l7 2 = some (.inl me) := ml7 2 _ l2_2 rfl
    have l7_3 : en_ld l7 3 = some (.inl ti) := ml7 3 _ l2_3 rfl
    have l7_4 : en_ld l7 4 = some (.inl ou) := ml7 4 _ l2_4 rfl
    have l7_7 : en_ld l7 7 = some (.inl 4294967290) := ml7 7 _ l2_7 rfl
    have l7_5 : en_ld l7 5 = some (.inl (h - 1)) := ml7 5 _ hl2 rfl
    refine ex_go (S := (6, l7, [], t103, n, 0)) rfl (fun _ => rfl) rfl ?_
    exact hQ _ t103 g103 (fun c j h9 => e103 c j (by first | decide | omega)) k103 l7_0 l7_1 l7_2 l7_3 l7_4 l7_5 hl7
  · refine gx_ld (i := 6) (d := 0) (v := .inl i) rfl (fun _ => rfl) h6 rfl rfl ?_
    refine gx_ld (i := 0) (d := 2) (v := gx_r 230) rfl (fun _ => rfl) h0 rfl rfl ?_
    refine gxo_get (a := 230) rfl g0 rfl rfl ks rfl ?_
    refine gx_2f (c := .ge) rfl (by first | decide | omega) (by first | decide | omega) (show ¬ (s ≤ i) from by omega) rfl ?_
    refine gx_ld (i := 0) (d := 2) (v := gx_r 230) rfl (fun _ => rfl) h0 rfl rfl ?_
    refine gxo_ref (a := 230) (c := 232) rfl g0 rfl rfl rfl rfl rfl ?_
    refine gx_ld (i := 6) (d := 0) (v := .inl i) rfl (fun _ => rfl) h6 rfl rfl ?_
    refine gx_ag (v := .inl 4294967289) (cb := fun c => Nat.beq c 0) rfl (fun _ => rfl) g0 rfl rfl kz (by first | decide | omega) rfl ?_
    refine gx_sto (i := 7) (d := 0) rfl (fun _ => rfl) rfl rfl (fun l1 hl1 ml1 => ?_)
    have l1_0 : en_ld l1 0 = some (gx_r 230) := ml1 0 _ h0 rfl
    have l1_1 : en_ld l1 1 = some (.inl mo) := ml1 1 _ hm rfl
    have l1_2 : en_ld l1 2 = some (.inl me) := ml1 2 _ ha rfl
    have l1_3 : en_ld l1 3 = some (.inl ti) := ml1 3 _ hb rfl
    have l1_4 : en_ld l1 4 = some (.inl ou) := ml1 4 _ ho4 rfl
    have l1_5 : en_ld l1 5 = some (.inl h) := ml1 5 _ h5 rfl
    have l1_6 : en_ld l1 6 = some (.inl i) := ml1 6 _ h6 rfl
    refine gx_ld (i := 7) (d := 0) (v := .inl 4294967289) rfl (fun _ => rfl) hl1 rfl rfl ?_
    refine ex_go (S := (27, l1, [.inl 4294967295, .inl 4294967289], t0, n, 0)) rfl (fun _ => rfl) rfl ?_
    refine ex_go (S := (64, l1, [], t0, n, 0)) rfl (fun _ => rfl) rfl ?_
    refine gx_ld (i := 7) (d := 0) (v := .inl 4294967289) rfl (fun _ => rfl) hl1 rfl rfl ?_
    refine ex_go (S := (69, l1, [], t0, n, 0)) rfl (fun _ => rfl) rfl ?_
    refine gx_ld (i := 7) (d := 0) (v := .inl 4294967289) rfl (fun _ => rfl) hl1 rfl rfl ?_
    refine ex_go (S := (73, l1, [.inl 4294967288, .inl 4294967289], t0, n, 0)) rfl (fun _ => rfl) rfl ?_
    refine ex_go (S := (76, l1, [], t0, n, 0)) rfl (fun _ => rfl) rfl ?_
    refine gx_ld (i := 5) (d := 0) (v := .inl h) rfl (fun _ => rfl) l1_5 rfl rfl ?_
    refine ex_go (S := (79, l1, [.inl 1, .inl h], t0, n, 0)) rfl (fun _ => rfl) rfl ?_
    refine gx_2f (c := .le) rfl (by first | decide | omega) (by first | decide | omega) (show ¬ (h ≤ 1) from by omega) rfl ?_
    refine gx_decS (i := 5) (a := h) rfl (fun _ => rfl) l1_5 (by first | decide | omega) (by first | decide | omega) rfl (fun l2 hl2 ml2 => ?_)
    have l2_0 : en_ld l2 0 = some (gx_r 230) := ml2 0 _ l1_0 rfl
    have l2_1 : en_ld l2 1 = some (.inl mo) := ml2 1 _ l1_1 rfl
    have l2_2 : en_ld l2 2 = some (.inl me) := ml2 2 _ l1_2 rfl
    have l2_3 : en_ld l2 3 = some (.inl ti) := ml2 3 _ l1_3 rfl
    have l2_4 : en_ld l2 4 = some (.inl ou) := ml2 4 _ l1_4 rfl
    have l2_6 : en_ld l2 6 = some (.inl i) := ml2 6 _ l1_6 rfl
    have l2_7 : en_ld l2 7 = some (.inl 4294967289) := ml2 7 _ hl1 rfl
    refine gx_ld (i := 0) (d := 2) (v := gx_r 230) rfl (fun _ => rfl) l2_0 rfl rfl ?_
    refine gxo_ref (a := 230) (c := 231) rfl g0 rfl rfl rfl rfl rfl ?_
    refine gx_ld (i := 5) (d := 0) (v := .inl (h - 1)) rfl (fun _ => rfl) hl2 rfl rfl ?_
    refine ex_go (S := (92, l2, [.inl 1, .inl (h - 1), gx_r 231], t0, n, 0)) rfl (fun _ => rfl) rfl ?_
    refine gx_isub rfl (by first | decide | omega) (by first | decide | omega) rfl ?_
    refine gx_ld (i := 7) (d := 0) (v := .inl 4294967289) rfl (fun _ => rfl) l2_7 rfl rfl ?_
    refine gx_ld (i := 0) (d := 2) (v := gx_r 230) rfl (fun _ => rfl) l2_0 rfl rfl ?_
    refine gxo_ref (a := 230) (c := 231) rfl g0 rfl rfl rfl rfl rfl ?_
    refine gx_ld (i := 5) (d := 0) (v := .inl (h - 1)) rfl (fun _ => rfl) hl2 rfl rfl ?_
    refine ex_go (S := (102, l2, [.inl 1, .inl (h - 1), gx_r 231, .inl 4294967289, .inl ((h - 1) - 1), gx_r 231], t0, n, 0)) rfl (fun _ => rfl) rfl ?_
    refine gx_isub rfl (by first | decide | omega) (by first | decide | omega) rfl ?_
    refine gx_ag (v := .inl x) (cb := fun c => Nat.beq c 0) rfl (fun _ => rfl) g0 rfl rfl kx (by first | decide | omega) rfl ?_
    refine gx_ld (i := 0) (d := 2) (v := gx_r 230) rfl (fun _ => rfl) l2_0 rfl rfl ?_
    refine gxo_ref (a := 230) (c := 231) rfl g0 rfl rfl rfl rfl rfl ?_
    refine gx_ld (i := 5) (d := 0) (v := .inl (h - 1)) rfl (fun _ => rfl) hl2 rfl rfl ?_
    refine gx_ag (v := .inl y) (cb := fun c => Nat.beq c 0) rfl (fun _ => rfl) g0 rfl rfl ky (by first | decide | omega) rfl ?_
    have hvb := vb_lt (o := opm 4294967289) (a := x) (b := y)
    refine ex_stat rfl rfl rfl rfl rfl (pc_joined d n (t0 := t0) (z := 4294967289) (x := x) (y := y) (by first | decide | omega) (by first | decide | omega) (by first | decide | omega)) (Nat.le_refl _) rfl ?_
    show en_ex _ _ _ _ (114, l2, [.inl (vb (opm 4294967289) x y), .inl ((h - 1) - 1), gx_r 231], t0, n, 0) _
    refine gx_ap rfl (fun _ => rfl) g0 rfl rfl rfl (show (h - 1) - 1 < 25 from by omega) (gx_run1 (show (h - 1) - 1 < 25 from by omega)) (gx_full (by first | decide | omega)) rfl (fun t103 g103 k103 e103 => ?_)
    have k4 : ai_hv t103 231 (h - 1) = some (.inl y) := (e103 231 (h - 1) (by first | decide | omega)).trans ky
    have k5 : ai_hv t103 230 2 = some (.inl s) := (e103 230 2 (by first | decide | omega)).trans ks
    have k6 : ai_hv t103 232 i = some (.inl 4294967289) := (e103 232 i (by first | decide | omega)).trans kz
    refine ex_go (S := (147, l2, [], t103, n, 0)) rfl (fun _ => rfl) rfl ?_
    refine gx_incS (i := 6) (a := i) (x := 1) rfl (fun _ => rfl) l2_6 (by first | decide | omega) rfl (fun l7 hl7 ml7 => ?_)
    have l7_0 : en_ld l7 0 = some (gx_r 230) := ml7 0 _ l2_0 rfl
    have l7_1 : en_ld l7 1 = some (.inl mo) := ml7 1 _ l2_1 rfl
    have l7_2 : en_ld l7 2 = some (.inl me) := ml7 2 _ l2_2 rfl
    have l7_3 : en_ld l7 3 = some (.inl ti) := ml7 3 _ l2_3 rfl
    have l7_4 : en_ld l7 4 = some (.inl ou) := ml7 4 _ l2_4 rfl
    have l7_7 : en_ld l7 7 = some (.inl 4294967289) := ml7 7 _ l2_7 rfl
    have l7_5 : en_ld l7 5 = some (.inl (h - 1)) := ml7 5 _ hl2 rfl
    refine ex_go (S := (6, l7, [], t103, n, 0)) rfl (fun _ => rfl) rfl ?_
    exact hQ _ t103 g103 (fun c j h9 => e103 c j (by first | decide | omega)) k103 l7_0 l7_1 l7_2 l7_3 l7_4 l7_5 hl7
  · refine gx_ld (i := 6) (d := 0) (v := .inl i) rfl (fun _ => rfl) h6 rfl rfl ?_
    refine gx_ld (i := 0) (d := 2) (v := gx_r 230) rfl (fun _ => rfl) h0 rfl rfl ?_
    refine gxo_get (a := 230) rfl g0 rfl rfl ks rfl ?_
    refine gx_2f (c := .ge) rfl (by first | decide | omega) (by first | decide | omega) (show ¬ (s ≤ i) from by omega) rfl ?_
    refine gx_ld (i := 0) (d := 2) (v := gx_r 230) rfl (fun _ => rfl) h0 rfl rfl ?_
    refine gxo_ref (a := 230) (c := 232) rfl g0 rfl rfl rfl rfl rfl ?_
    refine gx_ld (i := 6) (d := 0) (v := .inl i) rfl (fun _ => rfl) h6 rfl rfl ?_
    refine gx_ag (v := .inl 4294967288) (cb := fun c => Nat.beq c 0) rfl (fun _ => rfl) g0 rfl rfl kz (by first | decide | omega) rfl ?_
    refine gx_sto (i := 7) (d := 0) rfl (fun _ => rfl) rfl rfl (fun l1 hl1 ml1 => ?_)
    have l1_0 : en_ld l1 0 = some (gx_r 230) := ml1 0 _ h0 rfl
    have l1_1 : en_ld l1 1 = some (.inl mo) := ml1 1 _ hm rfl
    have l1_2 : en_ld l1 2 = some (.inl me) := ml1 2 _ ha rfl
    have l1_3 : en_ld l1 3 = some (.inl ti) := ml1 3 _ hb rfl
    have l1_4 : en_ld l1 4 = some (.inl ou) := ml1 4 _ ho4 rfl
    have l1_5 : en_ld l1 5 = some (.inl h) := ml1 5 _ h5 rfl
    have l1_6 : en_ld l1 6 = some (.inl i) := ml1 6 _ h6 rfl
    refine gx_ld (i := 7) (d := 0) (v := .inl 4294967288) rfl (fun _ => rfl) hl1 rfl rfl ?_
    refine ex_go (S := (27, l1, [.inl 4294967295, .inl 4294967288], t0, n, 0)) rfl (fun _ => rfl) rfl ?_
    refine ex_go (S := (64, l1, [], t0, n, 0)) rfl (fun _ => rfl) rfl ?_
    refine gx_ld (i := 7) (d := 0) (v := .inl 4294967288) rfl (fun _ => rfl) hl1 rfl rfl ?_
    refine ex_go (S := (69, l1, [], t0, n, 0)) rfl (fun _ => rfl) rfl ?_
    refine gx_ld (i := 7) (d := 0) (v := .inl 4294967288) rfl (fun _ => rfl) hl1 rfl rfl ?_
    refine ex_go (S := (73, l1, [.inl 4294967288, .inl 4294967288], t0, n, 0)) rfl (fun _ => rfl) rfl ?_
    refine ex_go (S := (76, l1, [], t0, n, 0)) rfl (fun _ => rfl) rfl ?_
    refine gx_ld (i := 5) (d := 0) (v := .inl h) rfl (fun _ => rfl) l1_5 rfl rfl ?_
    refine ex_go (S := (79, l1, [.inl 1, .inl h], t0, n, 0)) rfl (fun _ => rfl) rfl ?_
    refine gx_2f (c := .le) rfl (by first | decide | omega) (by first | decide | omega) (show ¬ (h ≤ 1) from by omega) rfl ?_
    refine gx_decS (i := 5) (a := h) rfl (fun _ => rfl) l1_5 (by first | decide | omega) (by first | decide | omega) rfl (fun l2 hl2 ml2 => ?_)
    have l2_0 : en_ld l2 0 = some (gx_r 230) := ml2 0 _ l1_0 rfl
    have l2_1 : en_ld l2 1 = some (.inl mo) := ml2 1 _ l1_1 rfl
    have l2_2 : en_ld l2 2 = some (.inl me) := ml2 2 _ l1_2 rfl
    have l2_3 : en_ld l2 3 = some (.inl ti) := ml2 3 _ l1_3 rfl
    have l2_4 : en_ld l2 4 = some (.inl ou) := ml2 4 _ l1_4 rfl
    have l2_6 : en_ld l2 6 = some (.inl i) := ml2 6 _ l1_6 rfl
    have l2_7 : en_ld l2 7 = some (.inl 4294967288) := ml2 7 _ hl1 rfl
    refine gx_ld (i := 0) (d := 2) (v := gx_r 230) rfl (fun _ => rfl) l2_0 rfl rfl ?_
    refine gxo_ref (a := 230) (c := 231) rfl g0 rfl rfl rfl rfl rfl ?_
    refine gx_ld (i := 5) (d := 0) (v := .inl (h - 1)) rfl (fun _ => rfl) hl2 rfl rfl ?_
    refine ex_go (S := (92, l2, [.inl 1, .inl (h - 1), gx_r 231], t0, n, 0)) rfl (fun _ => rfl) rfl ?_
    refine gx_isub rfl (by first | decide | omega) (by first | decide | omega) rfl ?_
    refine gx_ld (i := 7) (d := 0) (v := .inl 4294967288) rfl (fun _ => rfl) l2_7 rfl rfl ?_
    refine gx_ld (i := 0) (d := 2) (v := gx_r 230) rfl (fun _ => rfl) l2_0 rfl rfl ?_
    refine gxo_ref (a := 230) (c := 231) rfl g0 rfl rfl rfl rfl rfl ?_
    refine gx_ld (i := 5) (d := 0) (v := .inl (h - 1)) rfl (fun _ => rfl) hl2 rfl rfl ?_
    refine ex_go (S := (102, l2, [.inl 1, .inl (h - 1), gx_r 231, .inl 4294967288, .inl ((h - 1) - 1), gx_r 231], t0, n, 0)) rfl (fun _ => rfl) rfl ?_
    refine gx_isub rfl (by first | decide | omega) (by first | decide | omega) rfl ?_
    refine gx_ag (v := .inl x) (cb := fun c => Nat.beq c 0) rfl (fun _ => rfl) g0 rfl rfl kx (by first | decide | omega) rfl ?_
    refine gx_ld (i := 0) (d := 2) (v := gx_r 230) rfl (fun _ => rfl) l2_0 rfl rfl ?_
    refine gxo_ref (a := 230) (c := 231) rfl g0 rfl rfl rfl rfl rfl ?_
    refine gx_ld (i := 5) (d := 0) (v := .inl (h - 1)) rfl (fun _ => rfl) hl2 rfl rfl ?_
    refine gx_ag (v := .inl y) (cb := fun c => Nat.beq c 0) rfl (fun _ => rfl) g0 rfl rfl ky (by first | decide | omega) rfl ?_
    have hvb := vb_lt (o := opm 4294967288) (a := x) (b := y)
    refine ex_stat rfl rfl rfl rfl rfl (pc_joined d n (t0 := t0) (z := 4294967288) (x := x) (y := y) (by first | decide | omega) (by first | decide | omega) (by first | decide | omega)) (Nat.le_refl _) rfl ?_
    show en_ex _ _ _ _ (114, l2, [.inl (vb (opm 4294967288) x y), .inl ((h - 1) - 1), gx_r 231], t0, n, 0) _
    refine gx_ap rfl (fun _ => rfl) g0 rfl rfl rfl (show (h - 1) - 1 < 25 from by omega) (gx_run1 (show (h - 1) - 1 < 25 from by omega)) (gx_full (by first | decide | omega)) rfl (fun t103 g103 k103 e103 => ?_)
    have k4 : ai_hv t103 231 (h - 1) = some (.inl y) := (e103 231 (h - 1) (by first | decide | omega)).trans ky
    have k5 : ai_hv t103 230 2 = some (.inl s) := (e103 230 2 (by first | decide | omega)).trans ks
    have k6 : ai_hv t103 232 i = some (.inl 4294967288) := (e103 232 i (by first | decide | omega)).trans kz
    refine ex_go (S := (147, l2, [], t103, n, 0)) rfl (fun _ => rfl) rfl ?_
    refine gx_incS (i := 6) (a := i) (x := 1) rfl (fun _ => rfl) l2_6 (by first | decide | omega) rfl (fun l7 hl7 ml7 => ?_)
    have l7_0 : en_ld l7 0 = some (gx_r 230) := ml7 0 _ l2_0 rfl
    have l7_1 : en_ld l7 1 = some (.inl mo) := ml7 1 _ l2_1 rfl
    have l7_2 : en_ld l7 2 = some (.inl me) := ml7 2 _ l2_2 rfl
    have l7_3 : en_ld l7 3 = some (.inl ti) := ml7 3 _ l2_3 rfl
    have l7_4 : en_ld l7 4 = some (.inl ou) := ml7 4 _ l2_4 rfl
    have l7_7 : en_ld l7 7 = some (.inl 4294967288) := ml7 7 _ l2_7 rfl
    have l7_5 : en_ld l7 5 = some (.inl (h - 1)) := ml7 5 _ hl2 rfl
    refine ex_go (S := (6, l7, [], t103, n, 0)) rfl (fun _ => rfl) rfl ?_
    exact hQ _ t103 g103 (fun c j h9 => e103 c j (by first | decide | omega)) k103 l7_0 l7_1 l7_2 l7_3 l7_4 l7_5 hl7
  · refine gx_ld (i := 6) (d := 0) (v := .inl i) rfl (fun _ => rfl) h6 rfl rfl ?_
    refine gx_ld (i := 0) (d := 2) (v := gx_r 230) rfl (fun _ => rfl) h0 rfl rfl ?_
    refine gxo_get (a := 230) rfl g0 rfl rfl ks rfl ?_
    refine gx_2f (c := .ge) rfl (by first | decide | omega) (by first | decide | omega) (show ¬ (s ≤ i) from by omega) rfl ?_
    refine gx_ld (i := 0) (d := 2) (v := gx_r 230) rfl (fun _ => rfl) h0 rfl rfl ?_
    refine gxo_ref (a := 230) (c := 232) rfl g0 rfl rfl rfl rfl rfl ?_
    refine gx_ld (i := 6) (d := 0) (v := .inl i) rfl (fun _ => rfl) h6 rfl rfl ?_
    refine gx_ag (v := .inl 4294967292) (cb := fun c => Nat.beq c 0) rfl (fun _ => rfl) g0 rfl rfl kz (by first | decide | omega) rfl ?_
    refine gx_sto (i := 7) (d := 0) rfl (fun _ => rfl) rfl rfl (fun l1 hl1 ml1 => ?_)
    have l1_0 : en_ld l1 0 = some (gx_r 230) := ml1 0 _ h0 rfl
    have l1_1 : en_ld l1 1 = some (.inl mo) := ml1 1 _ hm rfl
    have l1_2 : en_ld l1 2 = some (.inl me) := ml1 2 _ ha rfl
    have l1_3 : en_ld l1 3 = some (.inl ti) := ml1 3 _ hb rfl
    have l1_4 : en_ld l1 4 = some (.inl ou) := ml1 4 _ ho4 rfl
    have l1_5 : en_ld l1 5 = some (.inl h) := ml1 5 _ h5 rfl
    have l1_6 : en_ld l1 6 = some (.inl i) := ml1 6 _ h6 rfl
    refine gx_ld (i := 7) (d := 0) (v := .inl 4294967292) rfl (fun _ => rfl) hl1 rfl rfl ?_
    refine ex_go (S := (27, l1, [.inl 4294967295, .inl 4294967292], t0, n, 0)) rfl (fun _ => rfl) rfl ?_
    refine ex_go (S := (64, l1, [], t0, n, 0)) rfl (fun _ => rfl) rfl ?_
    refine gx_ld (i := 7) (d := 0) (v := .inl 4294967292) rfl (fun _ => rfl) hl1 rfl rfl ?_
    refine ex_go (S := (69, l1, [], t0, n, 0)) rfl (fun _ => rfl) rfl ?_
    refine gx_ld (i := 7) (d := 0) (v := .inl 4294967292) rfl (fun _ => rfl) hl1 rfl rfl ?_
    refine ex_go (S := (73, l1, [.inl 4294967288, .inl 4294967292], t0, n, 0)) rfl (fun _ => rfl) rfl ?_
    refine ex_go (S := (76, l1, [], t0, n, 0)) rfl (fun _ => rfl) rfl ?_
    refine gx_ld (i := 5) (d := 0) (v := .inl h) rfl (fun _ => rfl) l1_5 rfl rfl ?_
    refine ex_go (S := (79, l1, [.inl 1, .inl h], t0, n, 0)) rfl (fun _ => rfl) rfl ?_
    refine gx_2f (c := .le) rfl (by first | decide | omega) (by first | decide | omega) (show ¬ (h ≤ 1) from by omega) rfl ?_
    refine gx_decS (i := 5) (a := h) rfl (fun _ => rfl) l1_5 (by first | decide | omega) (by first | decide | omega) rfl (fun l2 hl2 ml2 => ?_)
    have l2_0 : en_ld l2 0 = some (gx_r 230) := ml2 0 _ l1_0 rfl
    have l2_1 : en_ld l2 1 = some (.inl mo) := ml2 1 _ l1_1 rfl
    have l2_2 : en_ld l2 2 = some (.inl me) := ml2 2 _ l1_2 rfl
    have l2_3 : en_ld l2 3 = some (.inl ti) := ml2 3 _ l1_3 rfl
    have l2_4 : en_ld l2 4 = some (.inl ou) := ml2 4 _ l1_4 rfl
    have l2_6 : en_ld l2 6 = some (.inl i) := ml2 6 _ l1_6 rfl
    have l2_7 : en_ld l2 7 = some (.inl 4294967292) := ml2 7 _ hl1 rfl
    refine gx_ld (i := 0) (d := 2) (v := gx_r 230) rfl (fun _ => rfl) l2_0 rfl rfl ?_
    refine gxo_ref (a := 230) (c := 231) rfl g0 rfl rfl rfl rfl rfl ?_
    refine gx_ld (i := 5) (d := 0) (v := .inl (h - 1)) rfl (fun _ => rfl) hl2 rfl rfl ?_
    refine ex_go (S := (92, l2, [.inl 1, .inl (h - 1), gx_r 231], t0, n, 0)) rfl (fun _ => rfl) rfl ?_
    refine gx_isub rfl (by first | decide | omega) (by first | decide | omega) rfl ?_
    refine gx_ld (i := 7) (d := 0) (v := .inl 4294967292) rfl (fun _ => rfl) l2_7 rfl rfl ?_
    refine gx_ld (i := 0) (d := 2) (v := gx_r 230) rfl (fun _ => rfl) l2_0 rfl rfl ?_
    refine gxo_ref (a := 230) (c := 231) rfl g0 rfl rfl rfl rfl rfl ?_
    refine gx_ld (i := 5) (d := 0) (v := .inl (h - 1)) rfl (fun _ => rfl) hl2 rfl rfl ?_
    refine ex_go (S := (102, l2, [.inl 1, .inl (h - 1), gx_r 231, .inl 4294967292, .inl ((h - 1) - 1), gx_r 231], t0, n, 0)) rfl (fun _ => rfl) rfl ?_
    refine gx_isub rfl (by first | decide | omega) (by first | decide | omega) rfl ?_
    refine gx_ag (v := .inl x) (cb := fun c => Nat.beq c 0) rfl (fun _ => rfl) g0 rfl rfl kx (by first | decide | omega) rfl ?_
    refine gx_ld (i := 0) (d := 2) (v := gx_r 230) rfl (fun _ => rfl) l2_0 rfl rfl ?_
    refine gxo_ref (a := 230) (c := 231) rfl g0 rfl rfl rfl rfl rfl ?_
    refine gx_ld (i := 5) (d := 0) (v := .inl (h - 1)) rfl (fun _ => rfl) hl2 rfl rfl ?_
    refine gx_ag (v := .inl y) (cb := fun c => Nat.beq c 0) rfl (fun _ => rfl) g0 rfl rfl ky (by first | decide | omega) rfl ?_
    have hvb := vb_lt (o := opm 4294967292) (a := x) (b := y)
    refine ex_stat rfl rfl rfl rfl rfl (pc_joined d n (t0 := t0) (z := 4294967292) (x := x) (y := y) (by first | decide | omega) (by first | decide | omega) (by first | decide | omega)) (Nat.le_refl _) rfl ?_
    show en_ex _ _ _ _ (114, l2, [.inl (vb (opm 4294967292) x y), .inl ((h - 1) - 1), gx_r 231], t0, n, 0) _
    refine gx_ap rfl (fun _ => rfl) g0 rfl rfl rfl (show (h - 1) - 1 < 25 from by omega) (gx_run1 (show (h - 1) - 1 < 25 from by omega)) (gx_full (by first | decide | omega)) rfl (fun t103 g103 k103 e103 => ?_)
    have k4 : ai_hv t103 231 (h - 1) = some (.inl y) := (e103 231 (h - 1) (by first | decide | omega)).trans ky
    have k5 : ai_hv t103 230 2 = some (.inl s) := (e103 230 2 (by first | decide | omega)).trans ks
    have k6 : ai_hv t103 232 i = some (.inl 4294967292) := (e103 232 i (by first | decide | omega)).trans kz
    refine ex_go (S := (147, l2, [], t103, n, 0)) rfl (fun _ => rfl) rfl ?_
    refine gx_incS (i := 6) (a := i) (x := 1) rfl (fun _ => rfl) l2_6 (by first | decide | omega) rfl (fun l7 hl7 ml7 => ?_)
    have l7_0 : en_ld l7 0 = some (gx_r 230) := ml7 0 _ l2_0 rfl
    have l7_1 : en_ld l7 1 = some (.inl mo) := ml7 1 _ l2_1 rfl
    have l7_2 : en_ld l7 2 = some (.inl me) := ml7 2 _ l2_2 rfl
    have l7_3 : en_ld l7 3 = some (.inl ti) := ml7 3 _ l2_3 rfl
    have l7_4 : en_ld l7 4 = some (.inl ou) := ml7 4 _ l2_4 rfl
    have l7_7 : en_ld l7 7 = some (.inl 4294967292) := ml7 7 _ l2_7 rfl
    have l7_5 : en_ld l7 5 = some (.inl (h - 1)) := ml7 5 _ hl2 rfl
    refine ex_go (S := (6, l7, [], t103, n, 0)) rfl (fun _ => rfl) rfl ?_
    exact hQ _ t103 g103 (fun c j h9 => e103 c j (by first | decide | omega)) k103 l7_0 l7_1 l7_2 l7_3 l7_4 l7_5 hl7
  · refine gx_ld (i := 6) (d := 0) (v := .inl i) rfl (fun _ => rfl) h6 rfl rfl ?_
    refine gx_ld (i := 0) (d := 2) (v := gx_r 230) rfl (fun _ => rfl) h0 rfl rfl ?_
    refine gxo_get (a := 230) rfl g0 rfl rfl ks rfl ?_
    refine gx_2f (c := .ge) rfl (by first | decide | omega) (by first | decide | omega) (show ¬ (s ≤ i) from by omega) rfl ?_
    refine gx_ld (i := 0) (d := 2) (v := gx_r 230) rfl (fun _ => rfl) h0 rfl rfl ?_
    refine gxo_ref (a := 230) (c := 232) rfl g0 rfl rfl rfl rfl rfl ?_
    refine gx_ld (i := 6) (d := 0) (v := .inl i) rfl (fun _ => rfl) h6 rfl rfl ?_
    refine gx_ag (v := .inl 4294967291) (cb := fun c => Nat.beq c 0) rfl (fun _ => rfl) g0 rfl rfl kz (by first | decide | omega) rfl ?_
    refine gx_sto (i := 7) (d := 0) rfl (fun _ => rfl) rfl rfl (fun l1 hl1 ml1 => ?_)
    have l1_0 : en_ld l1 0 = some (gx_r 230) := ml1 0 _ h0 rfl
    have l1_1 : en_ld l1 1 = some (.inl mo) := ml1 1 _ hm rfl
    have l1_2 : en_ld l1 2 = some (.inl me) := ml1 2 _ ha rfl
    have l1_3 : en_ld l1 3 = some (.inl ti) := ml1 3 _ hb rfl
    have l1_4 : en_ld l1 4 = some (.inl ou) := ml1 4 _ ho4 rfl
    have l1_5 : en_ld l1 5 = some (.inl h) := ml1 5 _ h5 rfl
    have l1_6 : en_ld l1 6 = some (.inl i) := ml1 6 _ h6 rfl
    refine gx_ld (i := 7) (d := 0) (v := .inl 4294967291) rfl (fun _ => rfl) hl1 rfl rfl ?_
    refine ex_go (S := (27, l1, [.inl 4294967295, .inl 4294967291], t0, n, 0)) rfl (fun _ => rfl) rfl ?_
    refine ex_go (S := (64, l1, [], t0, n, 0)) rfl (fun _ => rfl) rfl ?_
    refine gx_ld (i := 7) (d := 0) (v := .inl 4294967291) rfl (fun _ => rfl) hl1 rfl rfl ?_
    refine ex_go (S := (69, l1, [], t0, n, 0)) rfl (fun _ => rfl) rfl ?_
    refine gx_ld (i := 7) (d := 0) (v := .inl 4294967291) rfl (fun _ => rfl) hl1 rfl rfl ?_
    refine ex_go (S := (73, l1, [.inl 4294967288, .inl 4294967291], t0, n, 0)) rfl (fun _ => rfl) rfl ?_
    refine ex_go (S := (76, l1, [], t0, n, 0)) rfl (fun _ => rfl) rfl ?_
    refine gx_ld (i := 5) (d := 0) (v := .inl h) rfl (fun _ => rfl) l1_5 rfl rfl ?_
    refine ex_go (S := (79, l1, [.inl 1, .inl h], t0, n, 0)) rfl (fun _ => rfl) rfl ?_
    refine gx_2f (c := .le) rfl (by first | decide | omega) (by first | decide | omega) (show ¬ (h ≤ 1) from by omega) rfl ?_
    refine gx_decS (i := 5) (a := h) rfl (fun _ => rfl) l1_5 (by first | decide | omega) (by first | decide | omega) rfl (fun l2 hl2 ml2 => ?_)
    have l2_0 : en_ld l2 0 = some (gx_r 230) := ml2 0 _ l1_0 rfl
    have l2_1 : en_ld l2 1 = some (.inl mo) := ml2 1 _ l1_1 rfl
    have l2_2 : en_ld l2 2 = some (.inl me) := ml2 2 _ l1_2 rfl
    have l2_3 : en_ld l2 3 = some (.inl ti) := ml2 3 _ l1_3 rfl
    have l2_4 : en_ld l2 4 = some (.inl ou) := ml2 4 _ l1_4 rfl
    have l2_6 : en_ld l2 6 = some (.inl i) := ml2 6 _ l1_6 rfl
    have l2_7 : en_ld l2 7 = some (.inl 4294967291) := ml2 7 _ hl1 rfl
    refine gx_ld (i := 0) (d := 2) (v := gx_r 230) rfl (fun _ => rfl) l2_0 rfl rfl ?_
    refine gxo_ref (a := 230) (c := 231) rfl g0 rfl rfl rfl rfl rfl ?_
    refine gx_ld (i := 5) (d := 0) (v := .inl (h - 1)) rfl (fun _ => rfl) hl2 rfl rfl ?_
    refine ex_go (S := (92, l2, [.inl 1, .inl (h - 1), gx_r 231], t0, n, 0)) rfl (fun _ => rfl) rfl ?_
    refine gx_isub rfl (by first | decide | omega) (by first | decide | omega) rfl ?_
    refine gx_ld (i := 7) (d := 0) (v := .inl 4294967291) rfl (fun _ => rfl) l2_7 rfl rfl ?_
    refine gx_ld (i := 0) (d := 2) (v := gx_r 230) rfl (fun _ => rfl) l2_0 rfl rfl ?_
    refine gxo_ref (a := 230) (c := 231) rfl g0 rfl rfl rfl rfl rfl ?_
    refine gx_ld (i := 5) (d := 0) (v := .inl (h - 1)) rfl (fun _ => rfl) hl2 rfl rfl ?_
    refine ex_go (S := (102, l2, [.inl 1, .inl (h - 1), gx_r 231, .inl 4294967291, .inl ((h - 1) - 1), gx_r 231], t0, n, 0)) rfl (fun _ => rfl) rfl ?_
    refine gx_isub rfl (by first | decide | omega) (by first | decide | omega) rfl ?_
    refine gx_ag (v := .inl x) (cb := fun c => Nat.beq c 0) rfl (fun _ => rfl) g0 rfl rfl kx (by first | decide | omega) rfl ?_
    refine gx_ld (i := 0) (d := 2) (v := gx_r 230) rfl (fun _ => rfl) l2_0 rfl rfl ?_
    refine gxo_ref (a := 230) (c := 231) rfl g0 rfl rfl rfl rfl rfl ?_
    refine gx_ld (i := 5) (d := 0) (v := .inl (h - 1)) rfl (fun _ => rfl) hl2 rfl rfl ?_
    refine gx_ag (v := .inl y) (cb := fun c => Nat.beq c 0) rfl (fun _ => rfl) g0 rfl rfl ky (by first | decide | omega) rfl ?_
    have hvb := vb_lt (o := opm 4294967291) (a := x) (b := y)
    refine ex_stat rfl rfl rfl rfl rfl (pc_joined d n (t0 := t0) (z := 4294967291) (x := x) (y := y) (by first | decide | omega) (by first | decide | omega) (by first | decide | omega)) (Nat.le_refl _) rfl ?_
    show en_ex _ _ _ _ (114, l2, [.inl (vb (opm 4294967291) x y), .inl ((h - 1) - 1), gx_r 231], t0, n, 0) _
    refine gx_ap rfl (fun _ => rfl) g0 rfl rfl rfl (show (h - 1) - 1 < 25 from by omega) (gx_run1 (show (h - 1) - 1 < 25 from by omega)) (gx_full (by first | decide | omega)) rfl (fun t103 g103 k103 e103 => ?_)
    have k4 : ai_hv t103 231 (h - 1) = some (.inl y) := (e103 231 (h - 1) (by first | decide | omega)).trans ky
    have k5 : ai_hv t103 230 2 = some (.inl s) := (e103 230 2 (by first | decide | omega)).trans ks
    have k6 : ai_hv t103 232 i = some (.inl 4294967291) := (e103 232 i (by first | decide | omega)).trans kz
    refine ex_go (S := (147, l2, [], t103, n, 0)) rfl (fun _ => rfl) rfl ?_
    refine gx_incS (i := 6) (a := i) (x := 1) rfl (fun _ => rfl) l2_6 (by first | decide | omega) rfl (fun l7 hl7 ml7 => ?_)
    have l7_0 : en_ld l7 0 = some (gx_r 230) := ml7 0 _ l2_0 rfl
    have l7_1 : en_ld l7 1 = some (.inl mo) := ml7 1 _ l2_1 rfl
    have l7_2 : en_ld l7 2 = some (.inl me) := ml7 2 _ l2_2 rfl
    have l7_3 : en_ld l7 3 = some (.inl ti) := ml7 3 _ l2_3 rfl
    have l7_4 : en_ld l7 4 = some (.inl ou) := ml7 4 _ l2_4 rfl
    have l7_7 : en_ld l7 7 = some (.inl 4294967291) := ml7 7 _ l2_7 rfl
    have l7_5 : en_ld l7 5 = some (.inl (h - 1)) := ml7 5 _ hl2 rfl
    refine ex_go (S := (6, l7, [], t103, n, 0)) rfl (fun _ => rfl) rfl ?_
    exact hQ _ t103 g103 (fun c j h9 => e103 c j (by first | decide | omega)) k103 l7_0 l7_1 l7_2 l7_3 l7_4 l7_5 hl7
  · refine gx_ld (i := 6) (d := 0) (v := .inl i) rfl (fun _ => rfl) h6 rfl rfl ?_
    refine gx_ld (i := 0) (d := 2) (v := gx_r 230) rfl (fun _ => rfl) h0 rfl rfl ?_
    refine gxo_get (a := 230) rfl g0 rfl rfl ks rfl ?_
    refine gx_2f (c := .ge) rfl (by first | decide | omega) (by first | decide | omega) (show ¬ (s ≤ i) from by omega) rfl ?_
    refine gx_ld (i := 0) (d := 2) (v := gx_r 230) rfl (fun _ => rfl) h0 rfl rfl ?_
    refine gxo_ref (a := 230) (c := 232) rfl g0 rfl rfl rfl rfl rfl ?_
    refine gx_ld (i := 6) (d := 0) (v := .inl i) rfl (fun _ => rfl) h6 rfl rfl ?_
    refine gx_ag (v := .inl 4294967294) (cb := fun c => Nat.beq c 0) rfl (fun _ => rfl) g0 rfl rfl kz (by first | decide | omega) rfl ?_
    refine gx_sto (i := 7) (d := 0) rfl (fun _ => rfl) rfl rfl (fun l1 hl1 ml1 => ?_)
    have l1_0 : en_ld l1 0 = some (gx_r 230) := ml1 0 _ h0 rfl
    have l1_1 : en_ld l1 1 = some (.inl mo) := ml1 1 _ hm rfl
    have l1_2 : en_ld l1 2 = some (.inl me) := ml1 2 _ ha rfl
    have l1_3 : en_ld l1 3 = some (.inl ti) := ml1 3 _ hb rfl
    have l1_4 : en_ld l1 4 = some (.inl ou) := ml1 4 _ ho4 rfl
    have l1_5 : en_ld l1 5 = some (.inl h) := ml1 5 _ h5 rfl
    have l1_6 : en_ld l1 6 = some (.inl i) := ml1 6 _ h6 rfl
    refine gx_ld (i := 7) (d := 0) (v := .inl 4294967294) rfl (fun _ => rfl) hl1 rfl rfl ?_
    refine ex_go (S := (27, l1, [.inl 4294967295, .inl 4294967294], t0, n, 0)) rfl (fun _ => rfl) rfl ?_
    refine ex_go (S := (64, l1, [], t0, n, 0)) rfl (fun _ => rfl) rfl ?_
    refine gx_ld (i := 7) (d := 0) (v := .inl 4294967294) rfl (fun _ => rfl) hl1 rfl rfl ?_
    refine ex_go (S := (69, l1, [], t0, n, 0)) rfl (fun _ => rfl) rfl ?_
    refine gx_ld (i := 7) (d := 0) (v := .inl 4294967294) rfl (fun _ => rfl) hl1 rfl rfl ?_
    refine ex_go (S := (73, l1, [.inl 4294967288, .inl 4294967294], t0, n, 0)) rfl (fun _ => rfl) rfl ?_
    refine ex_go (S := (76, l1, [], t0, n, 0)) rfl (fun _ => rfl) rfl ?_
    refine gx_ld (i := 5) (d := 0) (v := .inl h) rfl (fun _ => rfl) l1_5 rfl rfl ?_
    refine ex_go (S := (79, l1, [.inl 1, .inl h], t0, n, 0)) rfl (fun _ => rfl) rfl ?_
    refine gx_2f (c := .le) rfl (by first | decide | omega) (by first | decide | omega) (show ¬ (h ≤ 1) from by omega) rfl ?_
    refine gx_decS (i := 5) (a := h) rfl (fun _ => rfl) l1_5 (by first | decide | omega) (by first | decide | omega) rfl (fun l2 hl2 ml2 => ?_)
    have l2_0 : en_ld l2 0 = some (gx_r 230) := ml2 0 _ l1_0 rfl
    have l2_1 : en_ld l2 1 = some (.inl mo) := ml2 1 _ l1_1 rfl
    have l2_2 : en_ld l2 2 = some (.inl me) := ml2 2 _ l1_2 rfl
    have l2_3 : en_ld l2 3 = some (.inl ti) := ml2 3 _ l1_3 rfl
    have l2_4 : en_ld l2 4 = some (.inl ou) := ml2 4 _ l1_4 rfl
    have l2_6 : en_ld l2 6 = some (.inl i) := ml2 6 _ l1_6 rfl
    have l2_7 : en_ld l2 7 = some (.inl 4294967294) := ml2 7 _ hl1 rfl
    refine gx_ld (i := 0) (d := 2) (v := gx_r 230) rfl (fun _ => rfl) l2_0 rfl rfl ?_
    refine gxo_ref (a := 230) (c := 231) rfl g0 rfl rfl rfl rfl rfl ?_
    refine gx_ld (i := 5) (d := 0) (v := .inl (h - 1)) rfl (fun _ => rfl) hl2 rfl rfl ?_
    refine ex_go (S := (92, l2, [.inl 1, .inl (h - 1), gx_r 231], t0, n, 0)) rfl (fun _ => rfl) rfl ?_
    refine gx_isub rfl (by first | decide | omega) (by first | decide | omega) rfl ?_
    refine gx_ld (i := 7) (d := 0) (v := .inl 4294967294) rfl (fun _ => rfl) l2_7 rfl rfl ?_
    refine gx_ld (i := 0) (d := 2) (v := gx_r 230) rfl (fun _ => rfl) l2_0 rfl rfl ?_
    refine gxo_ref (a := 230) (c := 231) rfl g0 rfl rfl rfl rfl rfl ?_
    refine gx_ld (i := 5) (d := 0) (v := .inl (h - 1)) rfl (fun _ => rfl) hl2 rfl rfl ?_
    refine ex_go (S := (102, l2, [.inl 1, .inl (h - 1), gx_r 231, .inl 4294967294, .inl ((h - 1) - 1), gx_r 231], t0, n, 0)) rfl (fun _ => rfl) rfl ?_
    refine gx_isub rfl (by first | decide | omega) (by first | decide | omega) rfl ?_
    refine gx_ag (v := .inl x) (cb := fun c => Nat.beq c 0) rfl (fun _ => rfl) g0 rfl rfl kx (by first | decide | omega) rfl ?_
    refine gx_ld (i := 0) (d := 2) (v := gx_r 230) rfl (fun _ => rfl) l2_0 rfl rfl ?_
    refine gxo_ref (a := 230) (c := 231) rfl g0 rfl rfl rfl rfl rfl ?_
    refine gx_ld (i := 5) (d := 0) (v := .inl (h - 1)) rfl (fun _ => rfl) hl2 rfl rfl ?_
    refine gx_ag (v := .inl y) (cb := fun c => Nat.beq c 0) rfl (fun _ => rfl) g0 rfl rfl ky (by first | decide | omega) rfl ?_
    have hvb := vb_lt (o := opm 4294967294) (a := x) (b := y)
    refine ex_stat rfl rfl rfl rfl rfl (pc_joined d n (t0 := t0) (z := 4294967294) (x := x) (y := y) (by first | decide | omega) (by first | decide | omega) (by first | decide | omega)) (Nat.le_refl _) rfl ?_
    show en_ex _ _ _ _ (114, l2, [.inl (vb (opm 4294967294) x y), .inl ((h - 1) - 1), gx_r 231], t0, n, 0) _
    refine gx_ap rfl (fun _ => rfl) g0 rfl rfl rfl (show (h - 1) - 1 < 25 from by omega) (gx_run1 (show (h - 1) - 1 < 25 from by omega)) (gx_full (by first | decide | omega)) rfl (fun t103 g103 k103 e103 => ?_)
    have k4 : ai_hv t103 231 (h - 1) = some (.inl y) := (e103 231 (h - 1) (by first | decide | omega)).trans ky
    have k5 : ai_hv t103 230 2 = some (.inl s) := (e103 230 2 (by first | decide | omega)).trans ks
    have k6 : ai_hv t103 232 i = some (.inl 4294967294) := (e103 232 i (by first | decide | omega)).trans kz
    refine ex_go (S := (147, l2, [], t103, n, 0)) rfl (fun _ => rfl) rfl ?_
    refine gx_incS (i := 6) (a := i) (x := 1) rfl (fun _ => rfl) l2_6 (by first | decide | omega) rfl (fun l7 hl7 ml7 => ?_)
    have l7_0 : en_ld l7 0 = some (gx_r 230) := ml7 0 _ l2_0 rfl
    have l7_1 : en_ld l7 1 = some (.inl mo) := ml7 1 _ l2_1 rfl
    have l7_2 : en_ld l7 2 = some (.inl me) := ml7 2 _ l2_2 rfl
    have l7_3 : en_ld l7 3 = some (.inl ti) := ml7 3 _ l2_3 rfl
    have l7_4 : en_ld l7 4 = some (.inl ou) := ml7 4 _ l2_4 rfl
    have l7_7 : en_ld l7 7 = some (.inl 4294967294) := ml7 7 _ l2_7 rfl
    have l7_5 : en_ld l7 5 = some (.inl (h - 1)) := ml7 5 _ hl2 rfl
    refine ex_go (S := (6, l7, [], t103, n, 0)) rfl (fun _ => rfl) rfl ?_
    exact hQ _ t103 g103 (fun c j h9 => e103 c j (by first | decide | omega)) k103 l7_0 l7_1 l7_2 l7_3 l7_4 l7_5 hl7
  · refine gx_ld (i := 6) (d := 0) (v := .inl i) rfl (fun _ => rfl) h6 rfl rfl ?_
    refine gx_ld (i := 0) (d := 2) (v := gx_r 230) rfl (fun _ => rfl) h0 rfl rfl ?_
    refine gxo_get (a := 230) rfl g0 rfl rfl ks rfl ?_
    refine gx_2f (c := .ge) rfl (by first | decide | omega) (by first | decide | omega) (show ¬ (s ≤ i) from by omega) rfl ?_
    refine gx_ld (i := 0) (d := 2) (v := gx_r 230) rfl (fun _ => rfl) h0 rfl rfl ?_
    refine gxo_ref (a := 230) (c := 232) rfl g0 rfl rfl rfl rfl rfl ?_
    refine gx_ld (i := 6) (d := 0) (v := .inl i) rfl (fun _ => rfl) h6 rfl rfl ?_
    refine gx_ag (v := .inl 4294967293) (cb := fun c => Nat.beq c 0) rfl (fun _ => rfl) g0 rfl rfl kz (by first | decide | omega) rfl ?_
    refine gx_sto (i := 7) (d := 0) rfl (fun _ => rfl) rfl rfl (fun l1 hl1 ml1 => ?_)
    have l1_0 : en_ld l1 0 = some (gx_r 230) := ml1 0 _ h0 rfl
    have l1_1 : en_ld l1 1 = some (.inl mo) := ml1 1 _ hm rfl
    have l1_2 : en_ld l1 2 = some (.inl me) := ml1 2 _ ha rfl
    have l1_3 : en_ld l1 3 = some (.inl ti) := ml1 3 _ hb rfl
    have l1_4 : en_ld l1 4 = some (.inl ou) := ml1 4 _ ho4 rfl
    have l1_5 : en_ld l1 5 = some (.inl h) := ml1 5 _ h5 rfl
    have l1_6 : en_ld l1 6 = some (.inl i) := ml1 6 _ h6 rfl
    refine gx_ld (i := 7) (d := 0) (v := .inl 4294967293) rfl (fun _ => rfl) hl1 rfl rfl ?_
    refine ex_go (S := (27, l1, [.inl 4294967295, .inl 4294967293], t0, n, 0)) rfl (fun _ => rfl) rfl ?_
    refine ex_go (S := (64, l1, [], t0, n, 0)) rfl (fun _ => rfl) rfl ?_
    refine gx_ld (i := 7) (d := 0) (v := .inl 4294967293) rfl (fun _ => rfl) hl1 rfl rfl ?_
    refine ex_go (S := (69, l1, [], t0, n, 0)) rfl (fun _ => rfl) rfl ?_
    refine gx_ld (i := 7) (d := 0) (v := .inl 4294967293) rfl (fun _ => rfl) hl1 rfl rfl ?_
    refine ex_go (S := (73, l1, [.inl 4294967288, .inl 4294967293], t0, n, 0)) rfl (fun _ => rfl) rfl ?_
    refine ex_go (S := (76, l1, [], t0, n, 0)) rfl (fun _ => rfl) rfl ?_
    refine gx_ld (i := 5) (d := 0) (v := .inl h) rfl (fun _ => rfl) l1_5 rfl rfl ?_
    refine ex_go (S := (79, l1, [.inl 1, .inl h], t0, n, 0)) rfl (fun _ => rfl) rfl ?_
    refine gx_2f (c := .le) rfl (by first | decide | omega) (by first | decide | omega) (show ¬ (h ≤ 1) from by omega) rfl ?_
    refine gx_decS (i := 5) (a := h) rfl (fun _ => rfl) l1_5 (by first | decide | omega) (by first | decide | omega) rfl (fun l2 hl2 ml2 => ?_)
    have l2_0 : en_ld l2 0 = some (gx_r 230) := ml2 0 _ l1_0 rfl
    have l2_1 : en_ld l2 1 = some (.inl mo) := ml2 1 _ l1_1 rfl
    have l2_2 : en_ld l2 2 = some (.inl me) := ml2 2 _ l1_2 rfl
    have l2_3 : en_ld l2 3 = some (.inl ti) := ml2 3 _ l1_3 rfl
    have l2_4 : en_ld l2 4 = some (.inl ou) := ml2 4 _ l1_4 rfl
    have l2_6 : en_ld l2 6 = some (.inl i) := ml2 6 _ l1_6 rfl
    have l2_7 : en_ld l2 7 = some (.inl 4294967293) := ml2 7 _ hl1 rfl
    refine gx_ld (i := 0) (d := 2) (v := gx_r 230) rfl (fun _ => rfl) l2_0 rfl rfl ?_
    refine gxo_ref (a := 230) (c := 231) rfl g0 rfl rfl rfl rfl rfl ?_
    refine gx_ld (i := 5) (d := 0) (v := .inl (h - 1)) rfl (fun _ => rfl) hl2 rfl rfl ?_
    refine ex_go (S := (92, l2, [.inl 1, .inl (h - 1), gx_r 231], t0, n, 0)) rfl (fun _ => rfl) rfl ?_
    refine gx_isub rfl (by first | decide | omega) (by first | decide | omega) rfl ?_
    refine gx_ld (i := 7) (d := 0) (v := .inl 4294967293) rfl (fun _ => rfl) l2_7 rfl rfl ?_
    refine gx_ld (i := 0) (d := 2) (v := gx_r 230) rfl (fun _ => rfl) l2_0 rfl rfl ?_
    refine gxo_ref (a := 230) (c := 231) rfl g0 rfl rfl rfl rfl rfl ?_
    refine gx_ld (i := 5) (d := 0) (v := .inl (h - 1)) rfl (fun _ => rfl) hl2 rfl rfl ?_
    refine ex_go (S := (102, l2, [.inl 1, .inl (h - 1), gx_r 231, .inl 4294967293, .inl ((h - 1) - 1), gx_r 231], t0, n, 0)) rfl (fun _ => rfl) rfl ?_
    refine gx_isub rfl (by first | decide | omega) (by first | decide | omega) rfl ?_
    refine gx_ag (v := .inl x) (cb := fun c => Nat.beq c 0) rfl (fun _ => rfl) g0 rfl rfl kx (by first | decide | omega) rfl ?_
    refine gx_ld (i := 0) (d := 2) (v := gx_r 230) rfl (fun _ => rfl) l2_0 rfl rfl ?_
    refine gxo_ref (a := 230) (c := 231) rfl g0 rfl rfl rfl rfl rfl ?_
    refine gx_ld (i := 5) (d := 0) (v := .inl (h - 1)) rfl (fun _ => rfl) hl2 rfl rfl ?_
    refine gx_ag (v := .inl y) (cb := fun c => Nat.beq c 0) rfl (fun _ => rfl) g0 rfl rfl ky (by first | decide | omega) rfl ?_
    have hvb := vb_lt (o := opm 4294967293) (a := x) (b := y)
    refine ex_stat rfl rfl rfl rfl rfl (pc_joined d n (t0 := t0) (z := 4294967293) (x := x) (y := y) (by first | decide | omega) (by first | decide | omega) (by first | decide | omega)) (Nat.le_refl _) rfl ?_
    show en_ex _ _ _ _ (114, l2, [.inl (vb (opm 4294967293) x y), .inl ((h - 1) - 1), gx_r 231], t0, n, 0) _
    refine gx_ap rfl (fun _ => rfl) g0 rfl rfl rfl (show (h - 1) - 1 < 25 from by omega) (gx_run1 (show (h - 1) - 1 < 25 from by omega)) (gx_full (by first | decide | omega)) rfl (fun t103 g103 k103 e103 => ?_)
    have k4 : ai_hv t103 231 (h - 1) = some (.inl y) := (e103 231 (h - 1) (by first | decide | omega)).trans ky
    have k5 : ai_hv t103 230 2 = some (.inl s) := (e103 230 2 (by first | decide | omega)).trans ks
    have k6 : ai_hv t103 232 i = some (.inl 4294967293) := (e103 232 i (by first | decide | omega)).trans kz
    refine ex_go (S := (147, l2, [], t103, n, 0)) rfl (fun _ => rfl) rfl ?_
    refine gx_incS (i := 6) (a := i) (x := 1) rfl (fun _ => rfl) l2_6 (by first | decide | omega) rfl (fun l7 hl7 ml7 => ?_)
    have l7_0 : en_ld l7 0 = some (gx_r 230) := ml7 0 _ l2_0 rfl
    have l7_1 : en_ld l7 1 = some (.inl mo) := ml7 1 _ l2_1 rfl
    have l7_2 : en_ld l7 2 = some (.inl me) := ml7 2 _ l2_2 rfl
    have l7_3 : en_ld l7 3 = some (.inl ti) := ml7 3 _ l2_3 rfl
    have l7_4 : en_ld l7 4 = some (.inl ou) := ml7 4 _ l2_4 rfl
    have l7_7 : en_ld l7 7 = some (.inl 4294967293) := ml7 7 _ l2_7 rfl
    have l7_5 : en_ld l7 5 = some (.inl (h - 1)) := ml7 5 _ hl2 rfl
    refine ex_go (S := (6, l7, [], t103, n, 0)) rfl (fun _ => rfl) rfl ?_
    exact hQ _ t103 g103 (fun c j h9 => e103 c j (by first | decide | omega)) k103 l7_0 l7_1 l7_2 l7_3 l7_4 l7_5 hl7
theorem pv230_end (d n : Nat) {t0 : en_H} {cl : en_L} {mo me ti ou h i s v : Nat} {Q : en_O → Prop} (g0 : ai_HG ah_G t0) (h0 : en_ld cl 0 = some (gx_r 230)) (hm : en_ld cl 1 = some (.inl mo)) (ha : en_ld cl 2 = some (.inl me)) (hb : en_ld cl 3 = some (.inl ti)) (ho4 : en_ld cl 4 = some (.inl ou)) (h5 : en_ld cl 5 = some (.inl h)) (h6 : en_ld cl 6 = some (.inl i)) (ks : ai_hv t0 230 2 = some (.inl s)) (hs : s ≤ 1000) (hi : i = s) (hh : h = 1) (hmo : mo < 2147483648) (kv : ai_hv t0 231 0 = some (.inl v)) (hv : v < 4294967296) (hQ : Q (.inl (some (.inl (vcl mo v)), t0, n, 0))) : en_ex none (en_u (d + 1)) (en_code 210) (fun _ => false) (6, cl, [], t0, n, 0) Q := by
  refine gx_ld (i := 6) (d := 0) (v := .inl i) rfl (fun _ => rfl) h6 rfl rfl ?_
  refine gx_ld (i := 0) (d := 2) (v := gx_r 230) rfl (fun _ => rfl) h0 rfl rfl ?_
  refine gxo_get (a := 230) rfl g0 rfl rfl ks rfl ?_
  refine gx_2t (c := .ge) rfl (by first | decide | omega) (by first | decide | omega) (show s ≤ i from by omega) rfl ?_
  refine gx_ld (i := 5) (d := 0) (v := .inl h) rfl (fun _ => rfl) h5 rfl rfl ?_
  refine gx_1f (c := .le) rfl (by first | decide | omega) (show ¬ (h ≤ 0) from by omega) rfl ?_
  by_cases hvn : v < 2147483648
  · rw [vcl_n hvn] at hQ
    refine ex_go (S := (159, cl, [.inl 0], t0, n, 0)) rfl (fun _ => rfl) rfl ?_
    refine gx_ld (i := 1) (d := 0) (v := .inl mo) rfl (fun _ => rfl) hm rfl rfl ?_
    refine gx_ld (i := 0) (d := 2) (v := gx_r 230) rfl (fun _ => rfl) h0 rfl rfl ?_
    refine gxo_ref (a := 230) (c := 231) rfl g0 rfl rfl rfl rfl rfl ?_
    refine ex_go (S := (165, cl, [.inl 0, gx_r 231, .inl mo, .inl 0], t0, n, 0)) rfl (fun _ => rfl) rfl ?_
    refine gx_ag (v := .inl v) (cb := fun c => Nat.beq c 0) rfl (fun _ => rfl) g0 rfl rfl kv (by first | decide | omega) rfl ?_
    refine gx_inn rfl rfl rfl (zk_min (by first | decide | omega) (by first | decide | omega)) rfl rfl ?_
    refine gx_imm (m := min mo v) rfl rfl ((zk_max (by first | decide | omega) (by first | decide | omega)).trans (by rw [Nat.zero_max])) rfl rfl ?_
    refine ex_go (S := (176, cl, [.inl (min mo v)], t0, n, 0)) rfl (fun _ => rfl) rfl ?_
    refine ex_ret (r := (some (.inl (min mo v)), t0, n, 0)) rfl (fun _ => rfl) ?_
    exact hQ
  · rw [vcl_0 hvn] at hQ
    refine ex_go (S := (159, cl, [.inl 0], t0, n, 0)) rfl (fun _ => rfl) rfl ?_
    refine gx_ld (i := 1) (d := 0) (v := .inl mo) rfl (fun _ => rfl) hm rfl rfl ?_
    refine gx_ld (i := 0) (d := 2) (v := gx_r 230) rfl (fun _ => rfl) h0 rfl rfl ?_
    refine gxo_ref (a := 230) (c := 231) rfl g0 rfl rfl rfl rfl rfl ?_
    refine ex_go (S := (165, cl, [.inl 0, gx_r 231, .inl mo, .inl 0], t0, n, 0)) rfl (fun _ => rfl) rfl ?_
    refine gx_ag (v := .inl v) (cb := fun c => Nat.beq c 0) rfl (fun _ => rfl) g0 rfl rfl kv (by first | decide | omega) rfl ?_
    refine gx_inn (m := v) rfl rfl rfl (zk_minn (by first | decide | omega) (by first | decide | omega) (by first | decide | omega)) rfl rfl ?_
    refine gx_imm (m := 0) rfl rfl (zk_maxn (by first | decide | omega) (by first | decide | omega)) rfl rfl ?_
    refine ex_go (S := (176, cl, [.inl 0], t0, n, 0)) rfl (fun _ => rfl) rfl ?_
    refine ex_ret (r := (some (.inl 0), t0, n, 0)) rfl (fun _ => rfl) ?_
    exact hQ
theorem pv230_l (d n : Nat) {tb : en_H} {mo me ti ou s : Nat} (hmo : mo < 2147483648) (hme : me < 4294967296) (hti : ti < 4294967296) (hou : ou < 4294967296) (kb : ai_hv tb 230 2 = some (.inl s)) (hs : s ≤ 1000) : ∀ (L : List Nat) (i : Nat) (q : List Nat) (cl : en_L) (t0 : en_H), cco tb 230 i L → i + L.length = s → (∀ z, z ∈ L → ∃ fh, vo fh z) → hrun 25 L q.length = some 1 → q.length ≤ 25 → ai_HG ah_G t0 → (∀ c i, c ≠ 231 → ai_hv t0 c i = ai_hv tb c i) → stk t0 231 q → en_ld cl 0 = some (gx_r 230) → en_ld cl 1 = some (.inl mo) → en_ld cl 2 = some (.inl me) → en_ld cl 3 = some (.inl ti) → en_ld cl 4 = some (.inl ou) → en_ld cl 5 = some (.inl q.length) → en_ld cl 6 = some (.inl i) → en_ex none (en_u (d + 1)) (en_code 210) (fun _ => false) (6, cl, [], t0, n, 0) (fun o => ∃ v t1, o = .inl (some (.inl (vcl mo v)), t1, n, 0) ∧ vrun me ti ou L q = [v] ∧ v < 4294967296 ∧ ai_HG ah_G t1 ∧ (∀ c i, c ≠ 231 → ai_hv t1 c i = ai_hv tb c i))
  | [], i, q, cl, t0, hc, hi, hv, hr, hq, g0, e0, hst, l0, l1, l2, l3, l4, l5, l6 => by
    have hr : some q.length = some 1 := hr
    have hl := Option.some.inj hr
    match q, hl, hst, l5 with
    | [v], _, hst, l5 =>
      exact pv230_end d n g0 l0 l1 l2 l3 l4 l5 l6 ((e0 230 2 (by decide)).trans kb) hs hi rfl hmo hst.1 hst.2.1 ⟨v, t0, rfl, rfl, hst.2.1, g0, e0⟩
  | z :: L, i, q, cl, t0, hc, hi, hv, hr, hq, g0, e0, hst, l0, l1, l2, l3, l4, l5, l6 => by
    obtain ⟨c1, c3⟩ := hc
    have hi' : i + (L.length + 1) = s := hi
    have hvz := hv z List.mem_cons_self
    have hvL : ∀ z, z ∈ L → ∃ fh, vo fh z := fun z hz => hv z (List.mem_cons_of_mem _ hz)
    have hr : (if vk z = 0 then (if q.length < 25 then hrun 25 L (q.length + 1) else none) else if vk z = 1 then (if 1 ≤ q.length then hrun 25 L q.length else none) else (if 2 ≤ q.length then hrun 25 L (q.length - 1) else none)) = some 1 := hr
    have k1 : ai_hv t0 232 i = some (.inl z) := (e0 232 i (by decide)).trans c1
    have ks := (e0 230 2 (by decide)).trans kb
    show en_ex none (en_u (d + 1)) (en_code 210) (fun _ => false) (6, cl, [], t0, n, 0) (fun o => ∃ v t1, o = .inl (some (.inl (vcl mo v)), t1, n, 0) ∧ vrun me ti ou L (vs me ti ou z q) = [v] ∧ v < 4294967296 ∧ ai_HG ah_G t1 ∧ (∀ c i, c ≠ 231 → ai_hv t1 c i = ai_hv tb c i))
    by_cases z0 : vk z = 0
    · rw [if_pos z0] at hr
      by_cases hq2 : q.length < 25
      · rw [if_pos hq2] at hr
        have hvs : vs me ti ou z q = vpt me ti ou z :: q := by unfold vs; rw [if_pos z0]
        rw [hvs]
        have hz := vk_nn z0 (Or.inr hvz)
        have hvp : vpt me ti ou z < 4294967296 := vpt_lt hme hti hou hz
        exact pv230_val d n g0 l0 l1 l2 l3 l4 l5 l6 ks hs (by first | decide | omega) hq hme hti hou hz k1 hq2 (fun cl' t' g' e' k' m0 m1 m2 m3 m4 m5 m6 => pv230_l d n hmo hme hti hou kb hs L (i + 1) (vpt me ti ou z :: q) cl' t' c3 (by first | decide | omega) hvL hr (by show q.length + 1 ≤ 25; omega) g' (fun c j h9 => (e' c j (by first | decide | omega)).trans (e0 c j h9)) ⟨k', hvp, stk_keep hst (fun j hj => e' 231 j (by first | decide | omega))⟩ m0 m1 m2 m3 m4 m5 m6)
      · rw [if_neg hq2] at hr
        cases hr
    · rw [if_neg z0] at hr
      by_cases z1 : vk z = 1
      · rw [if_pos z1] at hr
        match q, hst, hr, hq, l5 with
        | [], hst, hr, hq, l5 => exact absurd hr (by rw [if_neg (by decide)]; exact fun z => by cases z)
        | x :: r, hst, hr, hq, l5 =>
          have hr : hrun 25 L (r.length + 1) = some 1 := by rw [← hr]; exact (if_pos (Nat.succ_le_succ (Nat.zero_le _))).symm
          have hvs : vs me ti ou z (x :: r) = vnot x :: r := by unfold vs; rw [if_neg z0, if_pos z1]
          rw [hvs]
          rw [vk_1 z1] at k1
          have hq' : r.length + 1 ≤ 25 := hq
          have l5' : en_ld cl 5 = some (.inl (r.length + 1)) := l5
          have kx : ai_hv t0 231 (r.length + 1 - 1) = some (.inl x) := hst.1
          exact pv230_not d n g0 l0 l1 l2 l3 l4 l5' l6 ks hs (by first | decide | omega) hq' hme hti hou k1 (by first | decide | omega) kx hst.2.1 (fun cl' t' g' e' k' m0 m1 m2 m3 m4 m5 m6 => pv230_l d n hmo hme hti hou kb hs L (i + 1) (vnot x :: r) cl' t' c3 (by first | decide | omega) hvL hr hq' g' (fun c j h9 => (e' c j (by first | decide | omega)).trans (e0 c j h9)) ⟨k', vnot_lt, stk_keep hst.2.2 (fun j hj => e' 231 j (by first | decide | omega))⟩ m0 m1 m2 m3 m4 m5 m6)
      · rw [if_neg z1] at hr
        match q, hst, hr, hq, l5 with
        | [], hst, hr, hq, l5 => exact absurd hr (by rw [if_neg (by decide)]; exact fun z => by cases z)
        | [x], hst, hr, hq, l5 => exact absurd hr (by rw [if_neg (show ¬ 2 ≤ [x].length from (by show ¬ 2 ≤ 1; decide))]; exact fun z => by cases z)
        | y :: x :: r, hst, hr, hq, l5 =>
          have hr : hrun 25 L (r.length + 1) = some 1 := by rw [← hr]; exact (if_pos (Nat.succ_le_succ (Nat.succ_le_succ (Nat.zero_le _)))).symm
          have hvs : vs me ti ou z (y :: x :: r) = vb (opm z) x y :: r := by unfold vs; rw [if_neg z0, if_neg z1]
          rw [hvs]
          have hzz := vo_cd z0 z1
          have hq' : r.length + 1 + 1 ≤ 25 := hq
          have l5' : en_ld cl 5 = some (.inl (r.length + 1 + 1)) := l5
          have ky : ai_hv t0 231 (r.length + 1 + 1 - 1) = some (.inl y) := hst.1
          have kx : ai_hv t0 231 (r.length + 1 + 1 - 1 - 1) = some (.inl x) := hst.2.2.1
          exact pv230_bin d n g0 l0 l1 l2 l3 l4 l5' l6 ks hs (by first | decide | omega) hq' hme hti hou (by first | decide | omega) k1 (by first | decide | omega) ky hst.2.1 kx hst.2.2.2.1 (fun cl' t' g' e' k' m0 m1 m2 m3 m4 m5 m6 => pv230_l d n hmo hme hti hou kb hs L (i + 1) (vb (opm z) x y :: r) cl' t' c3 (by first | decide | omega) hvL hr (by show r.length + 1 ≤ 25; omega) g' (fun c j h9 => (e' c j (by first | decide | omega)).trans (e0 c j h9)) ⟨k', vb_lt, stk_keep hst.2.2.2.2 (fun j hj => e' 231 j (by first | decide | omega))⟩ m0 m1 m2 m3 m4 m5 m6)
theorem pc_value230 (d n : Nat) {t0 : en_H} {mo me ti ou : Nat} {L : List Nat} (g0 : ai_HG ah_G t0) (hmo : mo < 2147483648) (hme : me < 4294967296) (hti : ti < 4294967296) (hou : ou < 4294967296) (kb : ai_hv t0 230 2 = some (.inl L.length)) (hs : L.length ≤ 1000) (hc : cco t0 230 0 L) (hv : ∀ z, z ∈ L → ∃ fh, vo fh z) (hr : hrun 25 L 0 = some 1) : ∃ r, en_u (d + 2) 210 [gx_r 230, .inl mo, .inl me, .inl ti, .inl ou] t0 n = some r ∧ ∃ v t', r = (some (.inl (vcl mo v)), t', n, 0) ∧ vrun me ti ou L [] = [v] ∧ v < 4294967296 ∧ ai_HG ah_G t' ∧ (∀ c i, c ≠ 231 → ai_hv t' c i = ai_hv t0 c i) := by
  refine en_u_ex (d := d + 1) rfl ?_
  show en_ex _ _ _ _ (0, [(0, gx_r 230), (1, .inl mo), (2, .inl me), (3, .inl ti), (4, .inl ou)], [], t0, n, 0) _
  refine ex_go (S := (1, [(0, gx_r 230), (1, .inl mo), (2, .inl me), (3, .inl ti), (4, .inl ou)], [.inl 0], t0, n, 0)) rfl (fun _ => rfl) rfl ?_
  refine ex_go (S := (3, [(5, .inl 0), (0, gx_r 230), (1, .inl mo), (2, .inl me), (3, .inl ti), (4, .inl ou)], [], t0, n, 0)) rfl (fun _ => rfl) rfl ?_
  refine ex_go (S := (4, [(5, .inl 0), (0, gx_r 230), (1, .inl mo), (2, .inl me), (3, .inl ti), (4, .inl ou)], [.inl 0], t0, n, 0)) rfl (fun _ => rfl) rfl ?_
  refine ex_go (S := (6, [(6, .inl 0), (5, .inl 0), (0, gx_r 230), (1, .inl mo), (2, .inl me), (3, .inl ti), (4, .inl ou)], [], t0, n, 0)) rfl (fun _ => rfl) rfl ?_
  exact ex_imp (fun o9 h9 => by
    obtain ⟨v, t1, h8, h7⟩ := h9
    exact ⟨_, h8, v, t1, rfl, h7⟩) (pv230_l d n hmo hme hti hou kb hs L 0 [] _ t0 hc (Nat.zero_add _) hv hr (by decide) g0 (fun c i h => rfl) trivial rfl rfl rfl rfl rfl rfl rfl)
theorem pv233_val (d n : Nat) {t0 : en_H} {cl : en_L} {mo me ti ou h i s z : Nat} {Q : en_O → Prop} (g0 : ai_HG ah_G t0) (h0 : en_ld cl 0 = some (gx_r 233)) (hm : en_ld cl 1 = some (.inl mo)) (ha : en_ld cl 2 = some (.inl me)) (hb : en_ld cl 3 = some (.inl ti)) (ho4 : en_ld cl 4 = some (.inl ou)) (h5 : en_ld cl 5 = some (.inl h)) (h6 : en_ld cl 6 = some (.inl i)) (ks : ai_hv t0 233 2 = some (.inl s)) (hs : s ≤ 1000) (hi : i < s) (hh : h ≤ 25) (hme : me < 4294967296) (hti : ti < 4294967296) (hou : ou < 4294967296) (hz : z < 2147483648 ∨ z = 4294967286 ∨ z = 4294967287 ∨ z = 4294967285) (kz : ai_hv t0 235 i = some (.inl z)) (hh2 : h < 25) (hQ : ∀ cl' t', ai_HG ah_G t' → (∀ c j, ¬ (c = 234 ∧ j = h) → ai_hv t' c j = ai_hv t0 c j) → ai_hv t' 234 (h) = some (.inl (vpt me ti ou z)) → en_ld cl' 0 = some (gx_r 233) → en_ld cl' 1 = some (.inl mo) → en_ld cl' 2 = some (.inl me) → en_ld cl' 3 = some (.inl ti) → en_ld cl' 4 = some (.inl ou) → en_ld cl' 5 = some (.inl (h + 1)) → en_ld cl' 6 = some (.inl (i + 1)) → en_ex none (en_u (d + 1)) (en_code 210) (fun _ => false) (6, cl', [], t', n, 0) Q) : en_ex none (en_u (d + 1)) (en_code 210) (fun _ => false) (6, cl, [], t0, n, 0) Q := by
  rcases hz with hz | rfl | rfl | rfl
  · refine gx_ld (i := 6) (d := 0) (v := .inl i) rfl (fun _ => rfl) h6 rfl rfl ?_
    refine gx_ld (i := 0) (d := 2) (v := gx_r 233) rfl (fun _ => rfl) h0 rfl rfl ?_
    refine gxo_get (a := 233) rfl g0 rfl rfl ks rfl ?_
    refine gx_2f (c := .ge) rfl (by first | decide | omega) (by first | decide | omega) (show ¬ (s ≤ i) from by omega) rfl ?_
    refine gx_ld (i := 0) (d := 2) (v := gx_r 233) rfl (fun _ => rfl) h0 rfl rfl ?_
    refine gxo_ref (a := 233) (c := 235) rfl g0 rfl rfl rfl rfl rfl ?_
    refine gx_ld (i := 6) (d := 0) (v := .inl i) rfl (fun _ => rfl) h6 rfl rfl ?_
    refine gx_ag (v := .inl z) (cb := fun c => Nat.beq c 0) rfl (fun _ => rfl) g0 rfl rfl kz (by first | decide | omega) rfl ?_
    refine gx_sto (i := 7) (d := 0) rfl (fun _ => rfl) rfl rfl (fun l1 hl1 ml1 => ?_)
    have l1_0 : en_ld l1 0 = some (gx_r 233) := ml1 0 _ h0 rfl
    have l1_1 : en_ld l1 1 = some (.inl mo) := ml1 1 _ hm rfl
    have l1_2 : en_ld l1 2 = some (.inl me) := ml1 2 _ ha rfl
    have l1_3 : en_ld l1 3 = some (.inl ti) := ml1 3 _ hb rfl
    have l1_4 : en_ld l1 4 = some (.inl ou) := ml1 4 _ ho4 rfl
    have l1_5 : en_ld l1 5 = some (.inl h) := ml1 5 _ h5 rfl
    have l1_6 : en_ld l1 6 = some (.inl i) := ml1 6 _ h6 rfl
    refine gx_ld (i := 7) (d := 0) (v := .inl z) rfl (fun _ => rfl) hl1 rfl rfl ?_
    refine ex_go (S := (27, l1, [.inl 4294967295, .inl z], t0, n, 0)) rfl (fun _ => rfl) rfl ?_
    refine gx_2mt (c := .ne) rfl (by first | decide | omega) rfl rfl ?_
    refine gx_ld (i := 7) (d := 0) (v := .inl z) rfl (fun _ => rfl) hl1 rfl rfl ?_
    refine gx_1t (c := .ge) rfl (by first | decide | omega) (show 0 ≤ z from by omega) rfl ?_
    refine gx_ld (i := 5) (d := 0) (v := .inl h) rfl (fun _ => rfl) l1_5 rfl rfl ?_
    refine gx_ld (i := 0) (d := 2) (v := gx_r 233) rfl (fun _ => rfl) l1_0 rfl rfl ?_
    refine gxo_ref (a := 233) (c := 234) rfl g0 rfl rfl rfl rfl rfl ?_
    refine gx_alen (a := 234) (m := 25) rfl g0 rfl rfl rfl ?_
    refine gx_2f (c := .ge) rfl (by first | decide | omega) (by first | decide | omega) (show ¬ (25 ≤ h) from by omega) rfl ?_
    refine gx_ld (i := 0) (d := 2) (v := gx_r 233) rfl (fun _ => rfl) l1_0 rfl rfl ?_
    refine gxo_ref (a := 233) (c := 234) rfl g0 rfl rfl rfl rfl rfl ?_
    refine gx_ld (i := 5) (d := 0) (v := .inl h) rfl (fun _ => rfl) l1_5 rfl rfl ?_
    refine gx_ld (i := 7) (d := 0) (v := .inl z) rfl (fun _ => rfl) hl1 rfl rfl ?_
    refine gx_ld (i := 2) (d := 0) (v := .inl me) rfl (fun _ => rfl) l1_2 rfl rfl ?_
    refine gx_ld (i := 3) (d := 0) (v := .inl ti) rfl (fun _ => rfl) l1_3 rfl rfl ?_
    refine gx_ld (i := 4) (d := 0) (v := .inl ou) rfl (fun _ => rfl) l1_4 rfl rfl ?_
    have hvp : vpt me ti ou z < 4294967296 := vpt_lt hme hti hou (by first | decide | omega)
    refine ex_stat rfl rfl rfl rfl rfl (pc_part d n (t0 := t0) (z := z) (me := me) (ti := ti) (ou := ou) (by first | decide | omega)) (Nat.le_refl _) rfl ?_
    show en_ex _ _ _ _ (143, l1, [.inl (vpt me ti ou z), .inl h, gx_r 234], t0, n, 0) _
    refine gx_ap rfl (fun _ => rfl) g0 rfl rfl rfl (show h < 25 from by omega) (gx_run1 (show h < 25 from by omega)) (gx_full (by first | decide | omega)) rfl (fun t102 g102 k102 e102 => ?_)
    have k3 : ai_hv t102 233 2 = some (.inl s) := (e102 233 2 (by first | decide | omega)).trans ks
    have k4 : ai_hv t102 235 i = some (.inl z) := (e102 235 i (by first | decide | omega)).trans kz
    refine gx_incS (i := 5) (a := h) (x := 1) rfl (fun _ => rfl) l1_5 (by first | decide | omega) rfl (fun l5 hl5 ml5 => ?_)
    have l5_0 : en_ld l5 0 = some (gx_r 233) := ml5 0 _ l1_0 rfl
    have l5_1 : en_ld l5 1 = some (.inl mo) := ml5 1 _ l1_1 rfl
    have l5_2 : en_ld l5 2 = some (.inl me) := ml5 2 _ l1_2 rfl
    have l5_3 : en_ld l5 3 = some (.inl ti) := ml5 3 _ l1_3 rfl
    have l5_4 : en_ld l5 4 = some (.inl ou) := ml5 4 _ l1_4 rfl
    have l5_6 : en_ld l5 6 = some (.inl i) := ml5 6 _ l1_6 rfl
    have l5_7 : en_ld l5 7 = some (.inl z) := ml5 7 _ hl1 rfl
    refine gx_incS (i := 6) (a := i) (x := 1) rfl (fun _ => rfl) l5_6 (by first | decide | omega) rfl (fun l6 hl6 ml6 => ?_)
    have l6_0 : en_ld l6 0 = some (gx_r 233) := ml6 0 _ l5_0 rfl
    have l6_1 : en_ld l6 1 = some (.inl mo) := ml6 1 _ l5_1 rfl
    have l6_2 : en_ld l6 2 = some (.inl me) := ml6 2 _ l5_2 rfl
    have l6_3 : en_ld l6 3 = some (.inl ti) := ml6 3 _ l5_3 rfl
    have l6_4 : en_ld l6 4 = some (.inl ou) := ml6 4 _ l5_4 rfl
    have l6_7 : en_ld l6 7 = some (.inl z) := ml6 7 _ l5_7 rfl
    have l6_5 : en_ld l6 5 = some (.inl (h + 1)) := ml6 5 _ hl5 rfl
    refine ex_go (S := (6, l6, [], t102, n, 0)) rfl (fun _ => rfl) rfl ?_
    exact hQ _ t102 g102 (fun c j h9 => e102 c j (by first | decide | omega)) k102 l6_0 l6_1 l6_2 l6_3 l6_4 l6_5 hl6
  · refine gx_ld (i := 6) (d := 0) (v := .inl i) rfl (fun _ => rfl) h6 rfl rfl ?_
    refine gx_ld (i := 0) (d := 2) (v := gx_r 233) rfl (fun _ => rfl) h0 rfl rfl ?_
    refine gxo_get (a := 233) rfl g0 rfl rfl ks rfl ?_
    refine gx_2f (c := .ge) rfl (by first | decide | omega) (by first | decide | omega) (show ¬ (s ≤ i) from by omega) rfl ?_
    refine gx_ld (i := 0) (d := 2) (v := gx_r 233) rfl (fun _ => rfl) h0 rfl rfl ?_
    refine gxo_ref (a := 233) (c := 235) rfl g0 rfl rfl rfl rfl rfl ?_
    refine gx_ld (i := 6) (d := 0) (v := .inl i) rfl (fun _ => rfl) h6 rfl rfl ?_
    refine gx_ag (v := .inl 4294967286) (cb := fun c => Nat.beq c 0) rfl (fun _ => rfl) g0 rfl rfl kz (by first | decide | omega) rfl ?_
    refine gx_sto (i := 7) (d := 0) rfl (fun _ => rfl) rfl rfl (fun l1 hl1 ml1 => ?_)
    have l1_0 : en_ld l1 0 = some (gx_r 233) := ml1 0 _ h0 rfl
    have l1_1 : en_ld l1 1 = some (.inl mo) := ml1 1 _ hm rfl
    have l1_2 : en_ld l1 2 = some (.inl me) := ml1 2 _ ha rfl
    have l1_3 : en_ld l1 3 = some (.inl ti) := ml1 3 _ hb rfl
    have l1_4 : en_ld l1 4 = some (.inl ou) := ml1 4 _ ho4 rfl
    have l1_5 : en_ld l1 5 = some (.inl h) := ml1 5 _ h5 rfl
    have l1_6 : en_ld l1 6 = some (.inl i) := ml1 6 _ h6 rfl
    refine gx_ld (i := 7) (d := 0) (v := .inl 4294967286) rfl (fun _ => rfl) hl1 rfl rfl ?_
    refine ex_go (S := (27, l1, [.inl 4294967295, .inl 4294967286], t0, n, 0)) rfl (fun _ => rfl) rfl ?_
    refine ex_go (S := (64, l1, [], t0, n, 0)) rfl (fun _ => rfl) rfl ?_
    refine gx_ld (i := 7) (d := 0) (v := .inl 4294967286) rfl (fun _ => rfl) hl1 rfl rfl ?_
    refine ex_go (S := (69, l1, [], t0, n, 0)) rfl (fun _ => rfl) rfl ?_
    refine gx_ld (i := 7) (d := 0) (v := .inl 4294967286) rfl (fun _ => rfl) hl1 rfl rfl ?_
    refine ex_go (S := (73, l1, [.inl 4294967288, .inl 4294967286], t0, n, 0)) rfl (fun _ => rfl) rfl ?_
    refine ex_go (S := (118, l1, [], t0, n, 0)) rfl (fun _ => rfl) rfl ?_
    refine gx_ld (i := 5) (d := 0) (v := .inl h) rfl (fun _ => rfl) l1_5 rfl rfl ?_
    refine gx_ld (i := 0) (d := 2) (v := gx_r 233) rfl (fun _ => rfl) l1_0 rfl rfl ?_
    refine gxo_ref (a := 233) (c := 234) rfl g0 rfl rfl rfl rfl rfl ?_
    refine gx_alen (a := 234) (m := 25) rfl g0 rfl rfl rfl ?_
    refine gx_2f (c := .ge) rfl (by first | decide | omega) (by first | decide | omega) (show ¬ (25 ≤ h) from by omega) rfl ?_
    refine gx_ld (i := 0) (d := 2) (v := gx_r 233) rfl (fun _ => rfl) l1_0 rfl rfl ?_
    refine gxo_ref (a := 233) (c := 234) rfl g0 rfl rfl rfl rfl rfl ?_
    refine gx_ld (i := 5) (d := 0) (v := .inl h) rfl (fun _ => rfl) l1_5 rfl rfl ?_
    refine gx_ld (i := 7) (d := 0) (v := .inl 4294967286) rfl (fun _ => rfl) hl1 rfl rfl ?_
    refine gx_ld (i := 2) (d := 0) (v := .inl me) rfl (fun _ => rfl) l1_2 rfl rfl ?_
    refine gx_ld (i := 3) (d := 0) (v := .inl ti) rfl (fun _ => rfl) l1_3 rfl rfl ?_
    refine gx_ld (i := 4) (d := 0) (v := .inl ou) rfl (fun _ => rfl) l1_4 rfl rfl ?_
    have hvp : vpt me ti ou 4294967286 < 4294967296 := vpt_lt hme hti hou (by first | decide | omega)
    refine ex_stat rfl rfl rfl rfl rfl (pc_part d n (t0 := t0) (z := 4294967286) (me := me) (ti := ti) (ou := ou) (by first | decide | omega)) (Nat.le_refl _) rfl ?_
    show en_ex _ _ _ _ (143, l1, [.inl (vpt me ti ou 4294967286), .inl h, gx_r 234], t0, n, 0) _
    refine gx_ap rfl (fun _ => rfl) g0 rfl rfl rfl (show h < 25 from by omega) (gx_run1 (show h < 25 from by omega)) (gx_full (by first | decide | omega)) rfl (fun t102 g102 k102 e102 => ?_)
    have k3 : ai_hv t102 233 2 = some (.inl s) := (e102 233 2 (by first | decide | omega)).trans ks
    have k4 : ai_hv t102 235 i = some (.inl 4294967286) := (e102 235 i (by first | decide | omega)).trans kz
    refine gx_incS (i := 5) (a := h) (x := 1) rfl (fun _ => rfl) l1_5 (by first | decide | omega) rfl (fun l5 hl5 ml5 => ?_)
    have l5_0 : en_ld l5 0 = some (gx_r 233) := ml5 0 _ l1_0 rfl
    have l5_1 : en_ld l5 1 = some (.inl mo) := ml5 1 _ l1_1 rfl
    have l5_2 : en_ld l5 2 = some (.inl me) := ml5 2 _ l1_2 rfl
    have l5_3 : en_ld l5 3 = some (.inl ti) := ml5 3 _ l1_3 rfl
    have l5_4 : en_ld l5 4 = some (.inl ou) := ml5 4 _ l1_4 rfl
    have l5_6 : en_ld l5 6 = some (.inl i) := ml5 6 _ l1_6 rfl
    have l5_7 : en_ld l5 7 = some (.inl 4294967286) := ml5 7 _ hl1 rfl
    refine gx_incS (i := 6) (a := i) (x := 1) rfl (fun _ => rfl) l5_6 (by first | decide | omega) rfl (fun l6 hl6 ml6 => ?_)
    have l6_0 : en_ld l6 0 = some (gx_r 233) := ml6 0 _ l5_0 rfl
    have l6_1 : en_ld l6 1 = some (.inl mo) := ml6 1 _ l5_1 rfl
    have l6_2 : en_ld l6 2 = some (.inl me) := ml6 2 _ l5_2 rfl
    have l6_3 : en_ld l6 3 = some (.inl ti) := ml6 3 _ l5_3 rfl
    have l6_4 : en_ld l6 4 = some (.inl ou) := ml6 4 _ l5_4 rfl
    have l6_7 : en_ld l6 7 = some (.inl 4294967286) := ml6 7 _ l5_7 rfl
    have l6_5 : en_ld l6 5 = some (.inl (h + 1)) := ml6 5 _ hl5 rfl
    refine ex_go (S := (6, l6, [], t102, n, 0)) rfl (fun _ => rfl) rfl ?_
    exact hQ _ t102 g102 (fun c j h9 => e102 c j (by first | decide | omega)) k102 l6_0 l6_1 l6_2 l6_3 l6_4 l6_5 hl6
  · refine gx_ld (i := 6) (d := 0) (v := .inl i) rfl (fun _ => rfl) h6 rfl rfl ?_
    refine gx_ld (i := 0) (d := 2) (v := gx_r 233) rfl (fun _ => rfl) h0 rfl rfl ?_
    refine gxo_get (a := 233) rfl g0 rfl rfl ks rfl ?_
    refine gx_2f (c := .ge) rfl (by first | decide | omega) (by first | decide | omega) (show ¬ (s ≤ i) from by omega) rfl ?_
    refine gx_ld (i := 0) (d := 2) (v := gx_r 233) rfl (fun _ => rfl) h0 rfl rfl ?_
    refine gxo_ref (a := 233) (c := 235) rfl g0 rfl rfl rfl rfl rfl ?_
    refine gx_ld (i := 6) (d := 0) (v := .inl i) rfl (fun _ => rfl) h6 rfl rfl ?_
    refine gx_ag (v := .inl 4294967287) (cb := fun c => Nat.beq c 0) rfl (fun _ => rfl) g0 rfl rfl kz (by first | decide | omega) rfl ?_
    refine gx_sto (i := 7) (d := 0) rfl (fun _ => rfl) rfl rfl (fun l1 hl1 ml1 => ?_)
    have l1_0 : en_ld l1 0 = some (gx_r 233) := ml1 0 _ h0 rfl
    have l1_1 : en_ld l1 1 = some (.inl mo) := ml1 1 _ hm rfl
    have l1_2 : en_ld l1 2 = some (.inl me) := ml1 2 _ ha rfl
    have l1_3 : en_ld l1 3 = some (.inl ti) := ml1 3 _ hb rfl
    have l1_4 : en_ld l1 4 = some (.inl ou) := ml1 4 _ ho4 rfl
    have l1_5 : en_ld l1 5 = some (.inl h) := ml1 5 _ h5 rfl
    have l1_6 : en_ld l1 6 = some (.inl i) := ml1 6 _ h6 rfl
    refine gx_ld (i := 7) (d := 0) (v := .inl 4294967287) rfl (fun _ => rfl) hl1 rfl rfl ?_
    refine ex_go (S := (27, l1, [.inl 4294967295, .inl 4294967287], t0, n, 0)) rfl (fun _ => rfl) rfl ?_
    refine ex_go (S := (64, l1, [], t0, n, 0)) rfl (fun _ => rfl) rfl ?_
    refine gx_ld (i := 7) (d := 0) (v := .inl 4294967287) rfl (fun _ => rfl) hl1 rfl rfl ?_
    refine ex_go (S := (69, l1, [], t0, n, 0)) rfl (fun _ => rfl) rfl ?_
    refine gx_ld (i := 7) (d := 0) (v := .inl 4294967287) rfl (fun _ => rfl) hl1 rfl rfl ?_
    refine ex_go (S := (73, l1, [.inl 4294967288, .inl 4294967287], t0, n, 0)) rfl (fun _ => rfl) rfl ?_
    refine ex_go (S := (118, l1, [], t0, n, 0)) rfl (fun _ => rfl) rfl ?_
    refine gx_ld (i := 5) (d := 0) (v := .inl h) rfl (fun _ => rfl) l1_5 rfl rfl ?_
    refine gx_ld (i := 0) (d := 2) (v := gx_r 233) rfl (fun _ => rfl) l1_0 rfl rfl ?_
    refine gxo_ref (a := 233) (c := 234) rfl g0 rfl rfl rfl rfl rfl ?_
    refine gx_alen (a := 234) (m := 25) rfl g0 rfl rfl rfl ?_
    refine gx_2f (c := .ge) rfl (by first | decide | omega) (by first | decide | omega) (show ¬ (25 ≤ h) from by omega) rfl ?_
    refine gx_ld (i := 0) (d := 2) (v := gx_r 233) rfl (fun _ => rfl) l1_0 rfl rfl ?_
    refine gxo_ref (a := 233) (c := 234) rfl g0 rfl rfl rfl rfl rfl ?_
    refine gx_ld (i := 5) (d := 0) (v := .inl h) rfl (fun _ => rfl) l1_5 rfl rfl ?_
    refine gx_ld (i := 7) (d := 0) (v := .inl 4294967287) rfl (fun _ => rfl) hl1 rfl rfl ?_
    refine gx_ld (i := 2) (d := 0) (v := .inl me) rfl (fun _ => rfl) l1_2 rfl rfl ?_
    refine gx_ld (i := 3) (d := 0) (v := .inl ti) rfl (fun _ => rfl) l1_3 rfl rfl ?_
    refine gx_ld (i := 4) (d := 0) (v := .inl ou) rfl (fun _ => rfl) l1_4 rfl rfl ?_
    have hvp : vpt me ti ou 4294967287 < 4294967296 := vpt_lt hme hti hou (by first | decide | omega)
    refine ex_stat rfl rfl rfl rfl rfl (pc_part d n (t0 := t0) (z := 4294967287) (me := me) (ti := ti) (ou := ou) (by first | decide | omega)) (Nat.le_refl _) rfl ?_
    show en_ex _ _ _ _ (143, l1, [.inl (vpt me ti ou 4294967287), .inl h, gx_r 234], t0, n, 0) _
    refine gx_ap rfl (fun _ => rfl) g0 rfl rfl rfl (show h < 25 from by omega) (gx_run1 (show h < 25 from by omega)) (gx_full (by first | decide | omega)) rfl (fun t102 g102 k102 e102 => ?_)
    have k3 : ai_hv t102 233 2 = some (.inl s) := (e102 233 2 (by first | decide | omega)).trans ks
    have k4 : ai_hv t102 235 i = some (.inl 4294967287) := (e102 235 i (by first | decide | omega)).trans kz
    refine gx_incS (i := 5) (a := h) (x := 1) rfl (fun _ => rfl) l1_5 (by first | decide | omega) rfl (fun l5 hl5 ml5 => ?_)
    have l5_0 : en_ld l5 0 = some (gx_r 233) := ml5 0 _ l1_0 rfl
    have l5_1 : en_ld l5 1 = some (.inl mo) := ml5 1 _ l1_1 rfl
    have l5_2 : en_ld l5 2 = some (.inl me) := ml5 2 _ l1_2 rfl
    have l5_3 : en_ld l5 3 = some (.inl ti) := ml5 3 _ l1_3 rfl
    have l5_4 : en_ld l5 4 = some (.inl ou) := ml5 4 _ l1_4 rfl
    have l5_6 : en_ld l5 6 = some (.inl i) := ml5 6 _ l1_6 rfl
    have l5_7 : en_ld l5 7 = some (.inl 4294967287) := ml5 7 _ hl1 rfl
    refine gx_incS (i := 6) (a := i) (x := 1) rfl (fun _ => rfl) l5_6 (by first | decide | omega) rfl (fun l6 hl6 ml6 => ?_)
    have l6_0 : en_ld l6 0 = some (gx_r 233) := ml6 0 _ l5_0 rfl
    have l6_1 : en_ld l6 1 = some (.inl mo) := ml6 1 _ l5_1 rfl
    have l6_2 : en_ld l6 2 = some (.inl me) := ml6 2 _ l5_2 rfl
    have l6_3 : en_ld l6 3 = some (.inl ti) := ml6 3 _ l5_3 rfl
    have l6_4 : en_ld l6 4 = some (.inl ou) := ml6 4 _ l5_4 rfl
    have l6_7 : en_ld l6 7 = some (.inl 4294967287) := ml6 7 _ l5_7 rfl
    have l6_5 : en_ld l6 5 = some (.inl (h + 1)) := ml6 5 _ hl5 rfl
    refine ex_go (S := (6, l6, [], t102, n, 0)) rfl (fun _ => rfl) rfl ?_
    exact hQ _ t102 g102 (fun c j h9 => e102 c j (by first | decide | omega)) k102 l6_0 l6_1 l6_2 l6_3 l6_4 l6_5 hl6
  · refine gx_ld (i := 6) (d := 0) (v := .inl i) rfl (fun _ => rfl) h6 rfl rfl ?_
    refine gx_ld (i := 0) (d := 2) (v := gx_r 233) rfl (fun _ => rfl) h0 rfl rfl ?_
    refine gxo_get (a := 233) rfl g0 rfl rfl ks rfl ?_
    refine gx_2f (c := .ge) rfl (by first | decide | omega) (by first | decide | omega) (show ¬ (s ≤ i) from by omega) rfl ?_
    refine gx_ld (i := 0) (d := 2) (v := gx_r 233) rfl (fun _ => rfl) h0 rfl rfl ?_
    refine gxo_ref (a := 233) (c := 235) rfl g0 rfl rfl rfl rfl rfl ?_
    refine gx_ld (i := 6) (d := 0) (v := .inl i) rfl (fun _ => rfl) h6 rfl rfl ?_
    refine gx_ag (v := .inl 4294967285) (cb := fun c => Nat.beq c 0) rfl (fun _ => rfl) g0 rfl rfl kz (by first | decide | omega) rfl ?_
    refine gx_sto (i := 7) (d := 0) rfl (fun _ => rfl) rfl rfl (fun l1 hl1 ml1 => ?_)
    have l1_0 : en_ld l1 0 = some (gx_r 233) := ml1 0 _ h0 rfl
    have l1_1 : en_ld l1 1 = some (.inl mo) := ml1 1 _ hm rfl
    have l1_2 : en_ld l1 2 = some (.inl me) := ml1 2 _ ha rfl
    have l1_3 : en_ld l1 3 = some (.inl ti) := ml1 3 _ hb rfl
    have l1_4 : en_ld l1 4 = some (.inl ou) := ml1 4 _ ho4 rfl
    have l1_5 : en_ld l1 5 = some (.inl h) := ml1 5 _ h5 rfl
    have l1_6 : en_ld l1 6 = some (.inl i) := ml1 6 _ h6 rfl
    refine gx_ld (i := 7) (d := 0) (v := .inl 4294967285) rfl (fun _ => rfl) hl1 rfl rfl ?_
    refine ex_go (S := (27, l1, [.inl 4294967295, .inl 4294967285], t0, n, 0)) rfl (fun _ => rfl) rfl ?_
    refine ex_go (S := (64, l1, [], t0, n, 0)) rfl (fun _ => rfl) rfl ?_
    refine gx_ld (i := 7) (d := 0) (v := .inl 4294967285) rfl (fun _ => rfl) hl1 rfl rfl ?_
    refine ex_go (S := (69, l1, [], t0, n, 0)) rfl (fun _ => rfl) rfl ?_
    refine gx_ld (i := 7) (d := 0) (v := .inl 4294967285) rfl (fun _ => rfl) hl1 rfl rfl ?_
    refine ex_go (S := (73, l1, [.inl 4294967288, .inl 4294967285], t0, n, 0)) rfl (fun _ => rfl) rfl ?_
    refine ex_go (S := (118, l1, [], t0, n, 0)) rfl (fun _ => rfl) rfl ?_
    refine gx_ld (i := 5) (d := 0) (v := .inl h) rfl (fun _ => rfl) l1_5 rfl rfl ?_
    refine gx_ld (i := 0) (d := 2) (v := gx_r 233) rfl (fun _ => rfl) l1_0 rfl rfl ?_
    refine gxo_ref (a := 233) (c := 234) rfl g0 rfl rfl rfl rfl rfl ?_
    refine gx_alen (a := 234) (m := 25) rfl g0 rfl rfl rfl ?_
    refine gx_2f (c := .ge) rfl (by first | decide | omega) (by first | decide | omega) (show ¬ (25 ≤ h) from by omega) rfl ?_
    refine gx_ld (i := 0) (d := 2) (v := gx_r 233) rfl (fun _ => rfl) l1_0 rfl rfl ?_
    refine gxo_ref (a := 233) (c := 234) rfl g0 rfl rfl rfl rfl rfl ?_
    refine gx_ld (i := 5) (d := 0) (v := .inl h) rfl (fun _ => rfl) l1_5 rfl rfl ?_
    refine gx_ld (i := 7) (d := 0) (v := .inl 4294967285) rfl (fun _ => rfl) hl1 rfl rfl ?_
    refine gx_ld (i := 2) (d := 0) (v := .inl me) rfl (fun _ => rfl) l1_2 rfl rfl ?_
    refine gx_ld (i := 3) (d := 0) (v := .inl ti) rfl (fun _ => rfl) l1_3 rfl rfl ?_
    refine gx_ld (i := 4) (d := 0) (v := .inl ou) rfl (fun _ => rfl) l1_4 rfl rfl ?_
    have hvp : vpt me ti ou 4294967285 < 4294967296 := vpt_lt hme hti hou (by first | decide | omega)
    refine ex_stat rfl rfl rfl rfl rfl (pc_part d n (t0 := t0) (z := 4294967285) (me := me) (ti := ti) (ou := ou) (by first | decide | omega)) (Nat.le_refl _) rfl ?_
    show en_ex _ _ _ _ (143, l1, [.inl (vpt me ti ou 4294967285), .inl h, gx_r 234], t0, n, 0) _
    refine gx_ap rfl (fun _ => rfl) g0 rfl rfl rfl (show h < 25 from by omega) (gx_run1 (show h < 25 from by omega)) (gx_full (by first | decide | omega)) rfl (fun t102 g102 k102 e102 => ?_)
    have k3 : ai_hv t102 233 2 = some (.inl s) := (e102 233 2 (by first | decide | omega)).trans ks
    have k4 : ai_hv t102 235 i = some (.inl 4294967285) := (e102 235 i (by first | decide | omega)).trans kz
    refine gx_incS (i := 5) (a := h) (x := 1) rfl (fun _ => rfl) l1_5 (by first | decide | omega) rfl (fun l5 hl5 ml5 => ?_)
    have l5_0 : en_ld l5 0 = some (gx_r 233) := ml5 0 _ l1_0 rfl
    have l5_1 : en_ld l5 1 = some (.inl mo) := ml5 1 _ l1_1 rfl
    have l5_2 : en_ld l5 2 = some (.inl me) := ml5 2 _ l1_2 rfl
    have l5_3 : en_ld l5 3 = some (.inl ti) := ml5 3 _ l1_3 rfl
    have l5_4 : en_ld l5 4 = some (.inl ou) := ml5 4 _ l1_4 rfl
    have l5_6 : en_ld l5 6 = some (.inl i) := ml5 6 _ l1_6 rfl
    have l5_7 : en_ld l5 7 = some (.inl 4294967285) := ml5 7 _ hl1 rfl
    refine gx_incS (i := 6) (a := i) (x := 1) rfl (fun _ => rfl) l5_6 (by first | decide | omega) rfl (fun l6 hl6 ml6 => ?_)
    have l6_0 : en_ld l6 0 = some (gx_r 233) := ml6 0 _ l5_0 rfl
    have l6_1 : en_ld l6 1 = some (.inl mo) := ml6 1 _ l5_1 rfl
    have l6_2 : en_ld l6 2 = some (.inl me) := ml6 2 _ l5_2 rfl
    have l6_3 : en_ld l6 3 = some (.inl ti) := ml6 3 _ l5_3 rfl
    have l6_4 : en_ld l6 4 = some (.inl ou) := ml6 4 _ l5_4 rfl
    have l6_7 : en_ld l6 7 = some (.inl 4294967285) := ml6 7 _ l5_7 rfl
    have l6_5 : en_ld l6 5 = some (.inl (h + 1)) := ml6 5 _ hl5 rfl
    refine ex_go (S := (6, l6, [], t102, n, 0)) rfl (fun _ => rfl) rfl ?_
    exact hQ _ t102 g102 (fun c j h9 => e102 c j (by first | decide | omega)) k102 l6_0 l6_1 l6_2 l6_3 l6_4 l6_5 hl6
theorem pv233_not (d n : Nat) {t0 : en_H} {cl : en_L} {mo me ti ou h i s x : Nat} {Q : en_O → Prop} (g0 : ai_HG ah_G t0) (h0 : en_ld cl 0 = some (gx_r 233)) (hm : en_ld cl 1 = some (.inl mo)) (ha : en_ld cl 2 = some (.inl me)) (hb : en_ld cl 3 = some (.inl ti)) (ho4 : en_ld cl 4 = some (.inl ou)) (h5 : en_ld cl 5 = some (.inl h)) (h6 : en_ld cl 6 = some (.inl i)) (ks : ai_hv t0 233 2 = some (.inl s)) (hs : s ≤ 1000) (hi : i < s) (hh : h ≤ 25) (hme : me < 4294967296) (hti : ti < 4294967296) (hou : ou < 4294967296) (kz : ai_hv t0 235 i = some (.inl 4294967295)) (h1 : 1 ≤ h) (kx : ai_hv t0 234 (h - 1) = some (.inl x)) (hx : x < 4294967296) (hQ : ∀ cl' t', ai_HG ah_G t' → (∀ c j, ¬ (c = 234 ∧ j = h - 1) → ai_hv t' c j = ai_hv t0 c j) → ai_hv t' 234 (h - 1) = some (.inl (vnot x)) → en_ld cl' 0 = some (gx_r 233) → en_ld cl' 1 = some (.inl mo) → en_ld cl' 2 = some (.inl me) → en_ld cl' 3 = some (.inl ti) → en_ld cl' 4 = some (.inl ou) → en_ld cl' 5 = some (.inl (h)) → en_ld cl' 6 = some (.inl (i + 1)) → en_ex none (en_u (d + 1)) (en_code 210) (fun _ => false) (6, cl', [], t', n, 0) Q) : en_ex none (en_u (d + 1)) (en_code 210) (fun _ => false) (6, cl, [], t0, n, 0) Q := by
  refine gx_ld (i := 6) (d := 0) (v := .inl i) rfl (fun _ => rfl) h6 rfl rfl ?_
  refine gx_ld (i := 0) (d := 2) (v := gx_r 233) rfl (fun _ => rfl) h0 rfl rfl ?_
  refine gxo_get (a := 233) rfl g0 rfl rfl ks rfl ?_
  refine gx_2f (c := .ge) rfl (by first | decide | omega) (by first | decide | omega) (show ¬ (s ≤ i) from by omega) rfl ?_
  refine gx_ld (i := 0) (d := 2) (v := gx_r 233) rfl (fun _ => rfl) h0 rfl rfl ?_
  refine gxo_ref (a := 233) (c := 235) rfl g0 rfl rfl rfl rfl rfl ?_
  refine gx_ld (i := 6) (d := 0) (v := .inl i) rfl (fun _ => rfl) h6 rfl rfl ?_
  refine gx_ag (v := .inl 4294967295) (cb := fun c => Nat.beq c 0) rfl (fun _ => rfl) g0 rfl rfl kz (by first | decide | omega) rfl ?_
  refine gx_sto (i := 7) (d := 0) rfl (fun _ => rfl) rfl rfl (fun l1 hl1 ml1 => ?_)
  have l1_0 : en_ld l1 0 = some (gx_r 233) := ml1 0 _ h0 rfl
  have l1_1 : en_ld l1 1 = some (.inl mo) := ml1 1 _ hm rfl
  have l1_2 : en_ld l1 2 = some (.inl me) := ml1 2 _ ha rfl
  have l1_3 : en_ld l1 3 = some (.inl ti) := ml1 3 _ hb rfl
  have l1_4 : en_ld l1 4 = some (.inl ou) := ml1 4 _ ho4 rfl
  have l1_5 : en_ld l1 5 = some (.inl h) := ml1 5 _ h5 rfl
  have l1_6 : en_ld l1 6 = some (.inl i) := ml1 6 _ h6 rfl
  refine gx_ld (i := 7) (d := 0) (v := .inl 4294967295) rfl (fun _ => rfl) hl1 rfl rfl ?_
  refine ex_go (S := (27, l1, [.inl 4294967295, .inl 4294967295], t0, n, 0)) rfl (fun _ => rfl) rfl ?_
  refine ex_go (S := (30, l1, [], t0, n, 0)) rfl (fun _ => rfl) rfl ?_
  refine gx_ld (i := 5) (d := 0) (v := .inl h) rfl (fun _ => rfl) l1_5 rfl rfl ?_
  refine gx_1f (c := .le) rfl (by first | decide | omega) (show ¬ (h ≤ 0) from by omega) rfl ?_
  refine gx_ld (i := 0) (d := 2) (v := gx_r 233) rfl (fun _ => rfl) l1_0 rfl rfl ?_
  refine gxo_ref (a := 233) (c := 234) rfl g0 rfl rfl rfl rfl rfl ?_
  refine gx_ld (i := 5) (d := 0) (v := .inl h) rfl (fun _ => rfl) l1_5 rfl rfl ?_
  refine ex_go (S := (42, l1, [.inl 1, .inl h, gx_r 234], t0, n, 0)) rfl (fun _ => rfl) rfl ?_
  refine gx_isub rfl (by first | decide | omega) (by first | decide | omega) rfl ?_
  refine gx_ld (i := 0) (d := 2) (v := gx_r 233) rfl (fun _ => rfl) l1_0 rfl rfl ?_
  refine gxo_ref (a := 233) (c := 234) rfl g0 rfl rfl rfl rfl rfl ?_
  refine gx_ld (i := 5) (d := 0) (v := .inl h) rfl (fun _ => rfl) l1_5 rfl rfl ?_
  refine ex_go (S := (50, l1, [.inl 1, .inl h, gx_r 234, .inl (h - 1), gx_r 234], t0, n, 0)) rfl (fun _ => rfl) rfl ?_
  refine gx_isub rfl (by first | decide | omega) (by first | decide | omega) rfl ?_
  refine gx_ag (v := .inl x) (cb := fun c => Nat.beq c 0) rfl (fun _ => rfl) g0 rfl rfl kx (by first | decide | omega) rfl ?_
  refine gx_1r (c := .ne) rfl (by first | decide | omega) rfl rfl (fun hr2 => ?_) (fun hr2 => ?_)
  · show en_ex _ _ _ _ (59, l1, [.inl (h - 1), gx_r 234], t0, n, 0) _
    refine ex_go (S := (60, l1, [.inl 0, .inl (h - 1), gx_r 234], t0, n, 0)) rfl (fun _ => rfl) rfl ?_
    refine gx_ap rfl (fun _ => rfl) g0 rfl rfl rfl (show h - 1 < 25 from by omega) (gx_run1 (show h - 1 < 25 from by omega)) (gx_full (by first | decide | omega)) rfl (fun t103 g103 k103 e103 => ?_)
    have k4 : ai_hv t103 233 2 = some (.inl s) := (e103 233 2 (by first | decide | omega)).trans ks
    have k5 : ai_hv t103 235 i = some (.inl 4294967295) := (e103 235 i (by first | decide | omega)).trans kz
    refine ex_go (S := (147, l1, [], t103, n, 0)) rfl (fun _ => rfl) rfl ?_
    refine gx_incS (i := 6) (a := i) (x := 1) rfl (fun _ => rfl) l1_6 (by first | decide | omega) rfl (fun l6 hl6 ml6 => ?_)
    have l6_0 : en_ld l6 0 = some (gx_r 233) := ml6 0 _ l1_0 rfl
    have l6_1 : en_ld l6 1 = some (.inl mo) := ml6 1 _ l1_1 rfl
    have l6_2 : en_ld l6 2 = some (.inl me) := ml6 2 _ l1_2 rfl
    have l6_3 : en_ld l6 3 = some (.inl ti) := ml6 3 _ l1_3 rfl
    have l6_4 : en_ld l6 4 = some (.inl ou) := ml6 4 _ l1_4 rfl
    have l6_5 : en_ld l6 5 = some (.inl h) := ml6 5 _ l1_5 rfl
    have l6_7 : en_ld l6 7 = some (.inl 4294967295) := ml6 7 _ hl1 rfl
    refine ex_go (S := (6, l6, [], t103, n, 0)) rfl (fun _ => rfl) rfl ?_
    have hv9 : vnot x = 0 := cif_t hr2
    exact hQ _ t103 g103 (fun c j h9 => e103 c j (by first | decide | omega)) (by rw [hv9]; exact k103) l6_0 l6_1 l6_2 l6_3 l6_4 l6_5 hl6
  · show en_ex _ _ _ _ (55, l1, [.inl (h - 1), gx_r 234], t0, n, 0) _
    refine ex_go (S := (56, l1, [.inl 1, .inl (h - 1), gx_r 234], t0, n, 0)) rfl (fun _ => rfl) rfl ?_
    refine ex_go (S := (60, l1, [.inl 1, .inl (h - 1), gx_r 234], t0, n, 0)) rfl (fun _ => rfl) rfl ?_
    refine gx_ap rfl (fun _ => rfl) g0 rfl rfl rfl (show h - 1 < 25 from by omega) (gx_run1 (show h - 1 < 25 from by omega)) (gx_full (by first | decide | omega)) rfl (fun t107 g107 k107 e107 => ?_)
    have k8 : ai_hv t107 233 2 = some (.inl s) := (e107 233 2 (by first | decide | omega)).trans ks
    have k9 : ai_hv t107 235 i = some (.inl 4294967295) := (e107 235 i (by first | decide | omega)).trans kz
    refine ex_go (S := (147, l1, [], t107, n, 0)) rfl (fun _ => rfl) rfl ?_
    refine gx_incS (i := 6) (a := i) (x := 1) rfl (fun _ => rfl) l1_6 (by first | decide | omega) rfl (fun l10 hl10 ml10 => ?_)
    have l10_0 : en_ld l10 0 = some (gx_r 233) := ml10 0 _ l1_0 rfl
    have l10_1 : en_ld l10 1 = some (.inl mo) := ml10 1 _ l1_1 rfl
    have l10_2 : en_ld l10 2 = some (.inl me) := ml10 2 _ l1_2 rfl
    have l10_3 : en_ld l10 3 = some (.inl ti) := ml10 3 _ l1_3 rfl
    have l10_4 : en_ld l10 4 = some (.inl ou) := ml10 4 _ l1_4 rfl
    have l10_5 : en_ld l10 5 = some (.inl h) := ml10 5 _ l1_5 rfl
    have l10_7 : en_ld l10 7 = some (.inl 4294967295) := ml10 7 _ hl1 rfl
    refine ex_go (S := (6, l10, [], t107, n, 0)) rfl (fun _ => rfl) rfl ?_
    have hv9 : vnot x = 1 := cif_f hr2
    exact hQ _ t107 g107 (fun c j h9 => e107 c j (by first | decide | omega)) (by rw [hv9]; exact k107) l10_0 l10_1 l10_2 l10_3 l10_4 l10_5 hl10
theorem pv233_bin (d n : Nat) {t0 : en_H} {cl : en_L} {mo me ti ou h i s x y z : Nat} {Q : en_O → Prop} (g0 : ai_HG ah_G t0) (h0 : en_ld cl 0 = some (gx_r 233)) (hm : en_ld cl 1 = some (.inl mo)) (ha : en_ld cl 2 = some (.inl me)) (hb : en_ld cl 3 = some (.inl ti)) (ho4 : en_ld cl 4 = some (.inl ou)) (h5 : en_ld cl 5 = some (.inl h)) (h6 : en_ld cl 6 = some (.inl i)) (ks : ai_hv t0 233 2 = some (.inl s)) (hs : s ≤ 1000) (hi : i < s) (hh : h ≤ 25) (hme : me < 4294967296) (hti : ti < 4294967296) (hou : ou < 4294967296) (hz : z = 4294967290 ∨ z = 4294967289 ∨ z = 4294967288 ∨ z = 4294967292 ∨ z = 4294967291 ∨ z = 4294967294 ∨ z = 4294967293) (kz : ai_hv t0 235 i = some (.inl z)) (h1 : 2 ≤ h) (ky : ai_hv t0 234 (h - 1) = some (.inl y)) (hy : y < 4294967296) (kx : ai_hv t0 234 (h - 1 - 1) = some (.inl x)) (hx : x < 4294967296) (hQ : ∀ cl' t', ai_HG ah_G t' → (∀ c j, ¬ (c = 234 ∧ j = h - 1 - 1) → ai_hv t' c j = ai_hv t0 c j) → ai_hv t' 234 (h - 1 - 1) = some (.inl (vb (opm z) x y)) → en_ld cl' 0 = some (gx_r 233) → en_ld cl' 1 = some (.inl mo) → en_ld cl' 2 = some (.inl me) → en_ld cl' 3 = some (.inl ti) → en_ld cl' 4 = some (.inl ou) → en_ld cl' 5 = some (.inl (h - 1)) → en_ld cl' 6 = some (.inl (i + 1)) → en_ex none (en_u (d + 1)) (en_code 210) (fun _ => false) (6, cl', [], t', n, 0) Q) : en_ex none (en_u (d + 1)) (en_code 210) (fun _ => false) (6, cl, [], t0, n, 0) Q := by
  rcases hz with rfl | rfl | rfl | rfl | rfl | rfl | rfl
  · refine gx_ld (i := 6) (d := 0) (v := .inl i) rfl (fun _ => rfl) h6 rfl rfl ?_
    refine gx_ld (i := 0) (d := 2) (v := gx_r 233) rfl (fun _ => rfl) h0 rfl rfl ?_
    refine gxo_get (a := 233) rfl g0 rfl rfl ks rfl ?_
    refine gx_2f (c := .ge) rfl (by first | decide | omega) (by first | decide | omega) (show ¬ (s ≤ i) from by omega) rfl ?_
    refine gx_ld (i := 0) (d := 2) (v := gx_r 233) rfl (fun _ => rfl) h0 rfl rfl ?_
    refine gxo_ref (a := 233) (c := 235) rfl g0 rfl rfl rfl rfl rfl ?_
    refine gx_ld (i := 6) (d := 0) (v := .inl i) rfl (fun _ => rfl) h6 rfl rfl ?_
    refine gx_ag (v := .inl 4294967290) (cb := fun c => Nat.beq c 0) rfl (fun _ => rfl) g0 rfl rfl kz (by first | decide | omega) rfl ?_
    refine gx_sto (i := 7) (d := 0) rfl (fun _ => rfl) rfl rfl (fun l1 hl1 ml1 => ?_)
    have l1_0 : en_ld l1 0 = some (gx_r 233) := ml1 0 _ h0 rfl
    have l1_1 : en_ld l1 1 = some (.inl mo) := ml1 1 _ hm rfl
    have l1_2 : en_ld l1 2 = some (.inl me) := ml1 2 _ ha rfl
    have l1_3 : en_ld l1 3 = some (.inl ti) := ml1 3 _ hb rfl
    have l1_4 : en_ld l1 4 = some (.inl ou) := ml1 4 _ ho4 rfl
    have l1_5 : en_ld l1 5 = some (.inl h) := ml1 5 _ h5 rfl
    have l1_6 : en_ld l1 6 = some (.inl i) := ml1 6 _ h6 rfl
    refine gx_ld (i := 7) (d := 0) (v := .inl 4294967290) rfl (fun _ => rfl) hl1 rfl rfl ?_
    refine ex_go (S := (27, l1, [.inl 4294967295, .inl 4294967290], t0, n, 0)) rfl (fun _ => rfl) rfl ?_
    refine ex_go (S := (64, l1, [], t0, n, 0)) rfl (fun _ => rfl) rfl ?_
    refine gx_ld (i := 7) (d := 0) (v := .inl 4294967290) rfl (fun _ => rfl) hl1 rfl rfl ?_
    refine ex_go (S := (69, l1, [], t0, n, 0)) rfl (fun _ => rfl) rfl ?_
    refine gx_ld (i := 7) (d := 0) (v := .inl 4294967290) rfl (fun _ => rfl) hl1 rfl rfl ?_
    refine ex_go (S := (73, l1, [.inl 4294967288, .inl 4294967290], t0, n, 0)) rfl (fun _ => rfl) rfl ?_
    refine ex_go (S := (76, l1, [], t0, n, 0)) rfl (fun _ => rfl) rfl ?_
    refine gx_ld (i := 5) (d := 0) (v := .inl h) rfl (fun _ => rfl) l1_5 rfl rfl ?_
    refine ex_go (S := (79, l1, [.inl 1, .inl h], t0, n, 0)) rfl (fun _ => rfl) rfl ?_
    refine gx_2f (c := .le) rfl (by first | decide | omega) (by first | decide | omega) (show ¬ (h ≤ 1) from by omega) rfl ?_
    refine gx_decS (i := 5) (a := h) rfl (fun _ => rfl) l1_5 (by first | decide | omega) (by first | decide | omega) rfl (fun l2 hl2 ml2 => ?_)
    have l2_0 : en_ld l2 0 = some (gx_r 233) := ml2 0 _ l1_0 rfl
    have l2_1 : en_ld l2 1 = some (.inl mo) := ml2 1 _ l1_1 rfl
    have l2_2 : en_ld l2 2 = some (.inl me) := ml2 2 _ l1_2 rfl
    have l2_3 : en_ld l2 3 = some (.inl ti) := ml2 3 _ l1_3 rfl
    have l2_4 : en_ld l2 4 = some (.inl ou) := ml2 4 _ l1_4 rfl
    have l2_6 : en_ld l2 6 = some (.inl i) := ml2 6 _ l1_6 rfl
    have l2_7 : en_ld l2 7 = some (.inl 4294967290) := ml2 7 _ hl1 rfl
    refine gx_ld (i := 0) (d := 2) (v := gx_r 233) rfl (fun _ => rfl) l2_0 rfl rfl ?_
    refine gxo_ref (a := 233) (c := 234) rfl g0 rfl rfl rfl rfl rfl ?_
    refine gx_ld (i := 5) (d := 0) (v := .inl (h - 1)) rfl (fun _ => rfl) hl2 rfl rfl ?_
    refine ex_go (S := (92, l2, [.inl 1, .inl (h - 1), gx_r 234], t0, n, 0)) rfl (fun _ => rfl) rfl ?_
    refine gx_isub rfl (by first | decide | omega) (by first | decide | omega) rfl ?_
    refine gx_ld (i := 7) (d := 0) (v := .inl 4294967290) rfl (fun _ => rfl) l2_7 rfl rfl ?_
    refine gx_ld (i := 0) (d := 2) (v := gx_r 233) rfl (fun _ => rfl) l2_0 rfl rfl ?_
    refine gxo_ref (a := 233) (c := 234) rfl g0 rfl rfl rfl rfl rfl ?_
    refine gx_ld (i := 5) (d := 0) (v := .inl (h - 1)) rfl (fun _ => rfl) hl2 rfl rfl ?_
    refine ex_go (S := (102, l2, [.inl 1, .inl (h - 1), gx_r 234, .inl 4294967290, .inl ((h - 1) - 1), gx_r 234], t0, n, 0)) rfl (fun _ => rfl) rfl ?_
    refine gx_isub rfl (by first | decide | omega) (by first | decide | omega) rfl ?_
    refine gx_ag (v := .inl x) (cb := fun c => Nat.beq c 0) rfl (fun _ => rfl) g0 rfl rfl kx (by first | decide | omega) rfl ?_
    refine gx_ld (i := 0) (d := 2) (v := gx_r 233) rfl (fun _ => rfl) l2_0 rfl rfl ?_
    refine gxo_ref (a := 233) (c := 234) rfl g0 rfl rfl rfl rfl rfl ?_
    refine gx_ld (i := 5) (d := 0) (v := .inl (h - 1)) rfl (fun _ => rfl) hl2 rfl rfl ?_
    refine gx_ag (v := .inl y) (cb := fun c => Nat.beq c 0) rfl (fun _ => rfl) g0 rfl rfl ky (by first | decide | omega) rfl ?_
    have hvb := vb_lt (o := opm 4294967290) (a := x) (b := y)
    refine ex_stat rfl rfl rfl rfl rfl (pc_joined d n (t0 := t0) (z := 4294967290) (x := x) (y := y) (by first | decide | omega) (by first | decide | omega) (by first | decide | omega)) (Nat.le_refl _) rfl ?_
    show en_ex _ _ _ _ (114, l2, [.inl (vb (opm 4294967290) x y), .inl ((h - 1) - 1), gx_r 234], t0, n, 0) _
    refine gx_ap rfl (fun _ => rfl) g0 rfl rfl rfl (show (h - 1) - 1 < 25 from by omega) (gx_run1 (show (h - 1) - 1 < 25 from by omega)) (gx_full (by first | decide | omega)) rfl (fun t103 g103 k103 e103 => ?_)
    have k4 : ai_hv t103 234 (h - 1) = some (.inl y) := (e103 234 (h - 1) (by first | decide | omega)).trans ky
    have k5 : ai_hv t103 233 2 = some (.inl s) := (e103 233 2 (by first | decide | omega)).trans ks
    have k6 : ai_hv t103 235 i = some (.inl 4294967290) := (e103 235 i (by first | decide | omega)).trans kz
    refine ex_go (S := (147, l2, [], t103, n, 0)) rfl (fun _ => rfl) rfl ?_
    refine gx_incS (i := 6) (a := i) (x := 1) rfl (fun _ => rfl) l2_6 (by first | decide | omega) rfl (fun l7 hl7 ml7 => ?_)
    have l7_0 : en_ld l7 0 = some (gx_r 233) := ml7 0 _ l2_0 rfl
    have l7_1 : en_ld l7 1 = some (.inl mo) := ml7 1 _ l2_1 rfl
    have l7_2 : en_ld l7 2 = some (.inl me) := ml7 2 _ l2_2 rfl
    have l7_3 : en_ld l7 3 = some (.inl ti) := ml7 3 _ l2_3 rfl
    have l7_4 : en_ld l7 4 = some (.inl ou) := ml7 4 _ l2_4 rfl
    have l7_7 : en_ld l7 7 = some (.inl 4294967290) := ml7 7 _ l2_7 rfl
    have l7_5 : en_ld l7 5 = some (.inl (h - 1)) := ml7 5 _ hl2 rfl
    refine ex_go (S := (6, l7, [], t103, n, 0)) rfl (fun _ => rfl) rfl ?_
    exact hQ _ t103 g103 (fun c j h9 => e103 c j (by first | decide | omega)) k103 l7_0 l7_1 l7_2 l7_3 l7_4 l7_5 hl7
  · refine gx_ld (i := 6) (d := 0) (v := .inl i) rfl (fun _ => rfl) h6 rfl rfl ?_
    refine gx_ld (i := 0) (d := 2) (v := gx_r 233) rfl (fun _ => rfl) h0 rfl rfl ?_
    refine gxo_get (a := 233) rfl g0 rfl rfl ks rfl ?_
    refine gx_2f (c := .ge) rfl (by first | decide | omega) (by first | decide | omega) (show ¬ (s ≤ i) from by omega) rfl ?_
    refine gx_ld (i := 0) (d := 2) (v := gx_r 233) rfl (fun _ => rfl) h0 rfl rfl ?_
    refine gxo_ref (a := 233) (c := 235) rfl g0 rfl rfl rfl rfl rfl ?_
    refine gx_ld (i := 6) (d := 0) (v := .inl i) rfl (fun _ => rfl) h6 rfl rfl ?_
    refine gx_ag (v := .inl 4294967289) (cb := fun c => Nat.beq c 0) rfl (fun _ => rfl) g0 rfl rfl kz (by first | decide | omega) rfl ?_
    refine gx_sto (i := 7) (d := 0) rfl (fun _ => rfl) rfl rfl (fun l1 hl1 ml1 => ?_)
    have l1_0 : en_ld l1 0 = some (gx_r 233) := ml1 0 _ h0 rfl
    have l1_1 : en_ld l1 1 = some (.inl mo) := ml1 1 _ hm rfl
    have l1_2 : en_ld l1 2 = some (.inl me) := ml1 2 _ ha rfl
    have l1_3 : en_ld l1 3 = some (.inl ti) := ml1 3 _ hb rfl
    have l1_4 : en_ld l1 4 = some (.inl ou) := ml1 4 _ ho4 rfl
    have l1_5 : en_ld l1 5 = some (.inl h) := ml1 5 _ h5 rfl
    have l1_6 : en_ld l1 6 = some (.inl i) := ml1 6 _ h6 rfl
    refine gx_ld (i := 7) (d := 0) (v := .inl 4294967289) rfl (fun _ => rfl) hl1 rfl rfl ?_
    refine ex_go (S := (27, l1, [.inl 4294967295, .inl 4294967289], t0, n, 0)) rfl (fun _ => rfl) rfl ?_
    refine ex_go (S := (64, l1, [], t0, n, 0)) rfl (fun _ => rfl) rfl ?_
    refine gx_ld (i := 7) (d := 0) (v := .inl 4294967289) rfl (fun _ => rfl) hl1 rfl rfl ?_
    refine ex_go (S := (69, l1, [], t0, n, 0)) rfl (fun _ => rfl) rfl ?_
    refine gx_ld (i := 7) (d := 0) (v := .inl 4294967289) rfl (fun _ => rfl) hl1 rfl rfl ?_
    refine ex_go (S := (73, l1, [.inl 4294967288, .inl 4294967289], t0, n, 0)) rfl (fun _ => rfl) rfl ?_
    refine ex_go (S := (76, l1, [], t0, n, 0)) rfl (fun _ => rfl) rfl ?_
    refine gx_ld (i := 5) (d := 0) (v := .inl h) rfl (fun _ => rfl) l1_5 rfl rfl ?_
    refine ex_go (S := (79, l1, [.inl 1, .inl h], t0, n, 0)) rfl (fun _ => rfl) rfl ?_
    refine gx_2f (c := .le) rfl (by first | decide | omega) (by first | decide | omega) (show ¬ (h ≤ 1) from by omega) rfl ?_
    refine gx_decS (i := 5) (a := h) rfl (fun _ => rfl) l1_5 (by first | decide | omega) (by first | decide | omega) rfl (fun l2 hl2 ml2 => ?_)
    have l2_0 : en_ld l2 0 = some (gx_r 233) := ml2 0 _ l1_0 rfl
    have l2_1 : en_ld l2 1 = some (.inl mo) := ml2 1 _ l1_1 rfl
    have l2_2 : en_ld l2 2 = some (.inl me) := ml2 2 _ l1_2 rfl
    have l2_3 : en_ld l2 3 = some (.inl ti) := ml2 3 _ l1_3 rfl
    have l2_4 : en_ld l2 4 = some (.inl ou) := ml2 4 _ l1_4 rfl
    have l2_6 : en_ld l2 6 = some (.inl i) := ml2 6 _ l1_6 rfl
    have l2_7 : en_ld l2 7 = some (.inl 4294967289) := ml2 7 _ hl1 rfl
    refine gx_ld (i := 0) (d := 2) (v := gx_r 233) rfl (fun _ => rfl) l2_0 rfl rfl ?_
    refine gxo_ref (a := 233) (c := 234) rfl g0 rfl rfl rfl rfl rfl ?_
    refine gx_ld (i := 5) (d := 0) (v := .inl (h - 1)) rfl (fun _ => rfl) hl2 rfl rfl ?_
    refine ex_go (S := (92, l2, [.inl 1, .inl (h - 1), gx_r 234], t0, n, 0)) rfl (fun _ => rfl) rfl ?_
    refine gx_isub rfl (by first | decide | omega) (by first | decide | omega) rfl ?_
    refine gx_ld (i := 7) (d := 0) (v := .inl 4294967289) rfl (fun _ => rfl) l2_7 rfl rfl ?_
    refine gx_ld (i := 0) (d := 2) (v := gx_r 233) rfl (fun _ => rfl) l2_0 rfl rfl ?_
    refine gxo_ref (a := 233) (c := 234) rfl g0 rfl rfl rfl rfl rfl ?_
    refine gx_ld (i := 5) (d := 0) (v := .inl (h - 1)) rfl (fun _ => rfl) hl2 rfl rfl ?_
    refine ex_go (S := (102, l2, [.inl 1, .inl (h - 1), gx_r 234, .inl 4294967289, .inl ((h - 1) - 1), gx_r 234], t0, n, 0)) rfl (fun _ => rfl) rfl ?_
    refine gx_isub rfl (by first | decide | omega) (by first | decide | omega) rfl ?_
    refine gx_ag (v := .inl x) (cb := fun c => Nat.beq c 0) rfl (fun _ => rfl) g0 rfl rfl kx (by first | decide | omega) rfl ?_
    refine gx_ld (i := 0) (d := 2) (v := gx_r 233) rfl (fun _ => rfl) l2_0 rfl rfl ?_
    refine gxo_ref (a := 233) (c := 234) rfl g0 rfl rfl rfl rfl rfl ?_
    refine gx_ld (i := 5) (d := 0) (v := .inl (h - 1)) rfl (fun _ => rfl) hl2 rfl rfl ?_
    refine gx_ag (v := .inl y) (cb := fun c => Nat.beq c 0) rfl (fun _ => rfl) g0 rfl rfl ky (by first | decide | omega) rfl ?_
    have hvb := vb_lt (o := opm 4294967289) (a := x) (b := y)
    refine ex_stat rfl rfl rfl rfl rfl (pc_joined d n (t0 := t0) (z := 4294967289) (x := x) (y := y) (by first | decide | omega) (by first | decide | omega) (by first | decide | omega)) (Nat.le_refl _) rfl ?_
    show en_ex _ _ _ _ (114, l2, [.inl (vb (opm 4294967289) x y), .inl ((h - 1) - 1), gx_r 234], t0, n, 0) _
    refine gx_ap rfl (fun _ => rfl) g0 rfl rfl rfl (show (h - 1) - 1 < 25 from by omega) (gx_run1 (show (h - 1) - 1 < 25 from by omega)) (gx_full (by first | decide | omega)) rfl (fun t103 g103 k103 e103 => ?_)
    have k4 : ai_hv t103 234 (h - 1) = some (.inl y) := (e103 234 (h - 1) (by first | decide | omega)).trans ky
    have k5 : ai_hv t103 233 2 = some (.inl s) := (e103 233 2 (by first | decide | omega)).trans ks
    have k6 : ai_hv t103 235 i = some (.inl 4294967289) := (e103 235 i (by first | decide | omega)).trans kz
    refine ex_go (S := (147, l2, [], t103, n, 0)) rfl (fun _ => rfl) rfl ?_
    refine gx_incS (i := 6) (a := i) (x := 1) rfl (fun _ => rfl) l2_6 (by first | decide | omega) rfl (fun l7 hl7 ml7 => ?_)
    have l7_0 : en_ld l7 0 = some (gx_r 233) := ml7 0 _ l2_0 rfl
    have l7_1 : en_ld l7 1 = some (.inl mo) := ml7 1 _ l2_1 rfl
    have l7_2 : en_ld l7 2 = some (.inl me) := ml7 2 _ l2_2 rfl
    have l7_3 : en_ld l7 3 = some (.inl ti) := ml7 3 _ l2_3 rfl
    have l7_4 : en_ld l7 4 = some (.inl ou) := ml7 4 _ l2_4 rfl
    have l7_7 : en_ld l7 7 = some (.inl 4294967289) := ml7 7 _ l2_7 rfl
    have l7_5 : en_ld l7 5 = some (.inl (h - 1)) := ml7 5 _ hl2 rfl
    refine ex_go (S := (6, l7, [], t103, n, 0)) rfl (fun _ => rfl) rfl ?_
    exact hQ _ t103 g103 (fun c j h9 => e103 c j (by first | decide | omega)) k103 l7_0 l7_1 l7_2 l7_3 l7_4 l7_5 hl7
  · refine gx_ld (i := 6) (d := 0) (v := .inl i) rfl (fun _ => rfl) h6 rfl rfl ?_
    refine gx_ld (i := 0) (d := 2) (v := gx_r 233) rfl (fun _ => rfl) h0 rfl rfl ?_
    refine gxo_get (a := 233) rfl g0 rfl rfl ks rfl ?_
    refine gx_2f (c := .ge) rfl (by first | decide | omega) (by first | decide | omega) (show ¬ (s ≤ i) from by omega) rfl ?_
    refine gx_ld (i := 0) (d := 2) (v := gx_r 233) rfl (fun _ => rfl) h0 rfl rfl ?_
    refine gxo_ref (a := 233) (c := 235) rfl g0 rfl rfl rfl rfl rfl ?_
    refine gx_ld (i := 6) (d := 0) (v := .inl i) rfl (fun _ => rfl) h6 rfl rfl ?_
    refine gx_ag (v := .inl 4294967288) (cb := fun c => Nat.beq c 0) rfl (fun _ => rfl) g0 rfl rfl kz (by first | decide | omega) rfl ?_
    refine gx_sto (i := 7) (d := 0) rfl (fun _ => rfl) rfl rfl (fun l1 hl1 ml1 => ?_)
    have l1_0 : en_ld l1 0 = some (gx_r 233) := ml1 0 _ h0 rfl
    have l1_1 : en_ld l1 1 = some (.inl mo) := ml1 1 _ hm rfl
    have l1_2 : en_ld l1 2 = some (.inl me) := ml1 2 _ ha rfl
    have l1_3 : en_ld l1 3 = some (.inl ti) := ml1 3 _ hb rfl
    have l1_4 : en_ld l1 4 = some (.inl ou) := ml1 4 _ ho4 rfl
    have l1_5 : en_ld l1 5 = some (.inl h) := ml1 5 _ h5 rfl
    have l1_6 : en_ld l1 6 = some (.inl i) := ml1 6 _ h6 rfl
    refine gx_ld (i := 7) (d := 0) (v := .inl 4294967288) rfl (fun _ => rfl) hl1 rfl rfl ?_
    refine ex_go (S := (27, l1, [.inl 4294967295, .inl 4294967288], t0, n, 0)) rfl (fun _ => rfl) rfl ?_
    refine ex_go (S := (64, l1, [], t0, n, 0)) rfl (fun _ => rfl) rfl ?_
    refine gx_ld (i := 7) (d := 0) (v := .inl 4294967288) rfl (fun _ => rfl) hl1 rfl rfl ?_
    refine ex_go (S := (69, l1, [], t0, n, 0)) rfl (fun _ => rfl) rfl ?_
    refine gx_ld (i := 7) (d := 0) (v := .inl 4294967288) rfl (fun _ => rfl) hl1 rfl rfl ?_
    refine ex_go (S := (73, l1, [.inl 4294967288, .inl 4294967288], t0, n, 0)) rfl (fun _ => rfl) rfl ?_
    refine ex_go (S := (76, l1, [], t0, n, 0)) rfl (fun _ => rfl) rfl ?_
    refine gx_ld (i := 5) (d := 0) (v := .inl h) rfl (fun _ => rfl) l1_5 rfl rfl ?_
    refine ex_go (S := (79, l1, [.inl 1, .inl h], t0, n, 0)) rfl (fun _ => rfl) rfl ?_
    refine gx_2f (c := .le) rfl (by first | decide | omega) (by first | decide | omega) (show ¬ (h ≤ 1) from by omega) rfl ?_
    refine gx_decS (i := 5) (a := h) rfl (fun _ => rfl) l1_5 (by first | decide | omega) (by first | decide | omega) rfl (fun l2 hl2 ml2 => ?_)
    have l2_0 : en_ld l2 0 = some (gx_r 233) := ml2 0 _ l1_0 rfl
    have l2_1 : en_ld l2 1 = some (.inl mo) := ml2 1 _ l1_1 rfl
    have l2_2 : en_ld l2 2 = some (.inl me) := ml2 2 _ l1_2 rfl
    have l2_3 : en_ld l2 3 = some (.inl ti) := ml2 3 _ l1_3 rfl
    have l2_4 : en_ld l2 4 = some (.inl ou) := ml2 4 _ l1_4 rfl
    have l2_6 : en_ld l2 6 = some (.inl i) := ml2 6 _ l1_6 rfl
    have l2_7 : en_ld l2 7 = some (.inl 4294967288) := ml2 7 _ hl1 rfl
    refine gx_ld (i := 0) (d := 2) (v := gx_r 233) rfl (fun _ => rfl) l2_0 rfl rfl ?_
    refine gxo_ref (a := 233) (c := 234) rfl g0 rfl rfl rfl rfl rfl ?_
    refine gx_ld (i := 5) (d := 0) (v := .inl (h - 1)) rfl (fun _ => rfl) hl2 rfl rfl ?_
    refine ex_go (S := (92, l2, [.inl 1, .inl (h - 1), gx_r 234], t0, n, 0)) rfl (fun _ => rfl) rfl ?_
    refine gx_isub rfl (by first | decide | omega) (by first | decide | omega) rfl ?_
    refine gx_ld (i := 7) (d := 0) (v := .inl 4294967288) rfl (fun _ => rfl) l2_7 rfl rfl ?_
    refine gx_ld (i := 0) (d := 2) (v := gx_r 233) rfl (fun _ => rfl) l2_0 rfl rfl ?_
    refine gxo_ref (a := 233) (c := 234) rfl g0 rfl rfl rfl rfl rfl ?_
    refine gx_ld (i := 5) (d := 0) (v := .inl (h - 1)) rfl (fun _ => rfl) hl2 rfl rfl ?_
    refine ex_go (S := (102, l2, [.inl 1, .inl (h - 1), gx_r 234, .inl 4294967288, .inl ((h - 1) - 1), gx_r 234], t0, n, 0)) rfl (fun _ => rfl) rfl ?_
    refine gx_isub rfl (by first | decide | omega) (by first | decide | omega) rfl ?_
    refine gx_ag (v := .inl x) (cb := fun c => Nat.beq c 0) rfl (fun _ => rfl) g0 rfl rfl kx (by first | decide | omega) rfl ?_
    refine gx_ld (i := 0) (d := 2) (v := gx_r 233) rfl (fun _ => rfl) l2_0 rfl rfl ?_
    refine gxo_ref (a := 233) (c := 234) rfl g0 rfl rfl rfl rfl rfl ?_
    refine gx_ld (i := 5) (d := 0) (v := .inl (h - 1)) rfl (fun _ => rfl) hl2 rfl rfl ?_
    refine gx_ag (v := .inl y) (cb := fun c => Nat.beq c 0) rfl (fun _ => rfl) g0 rfl rfl ky (by first | decide | omega) rfl ?_
    have hvb := vb_lt (o := opm 4294967288) (a := x) (b := y)
    refine ex_stat rfl rfl rfl rfl rfl (pc_joined d n (t0 := t0) (z := 4294967288) (x := x) (y := y) (by first | decide | omega) (by first | decide | omega) (by first | decide | omega)) (Nat.le_refl _) rfl ?_
    show en_ex _ _ _ _ (114, l2, [.inl (vb (opm 4294967288) x y), .inl ((h - 1) - 1), gx_r 234], t0, n, 0) _
    refine gx_ap rfl (fun _ => rfl) g0 rfl rfl rfl (show (h - 1) - 1 < 25 from by omega) (gx_run1 (show (h - 1) - 1 < 25 from by omega)) (gx_full (by first | decide | omega)) rfl (fun t103 g103 k103 e103 => ?_)
    have k4 : ai_hv t103 234 (h - 1) = some (.inl y) := (e103 234 (h - 1) (by first | decide | omega)).trans ky
    have k5 : ai_hv t103 233 2 = some (.inl s) := (e103 233 2 (by first | decide | omega)).trans ks
    have k6 : ai_hv t103 235 i = some (.inl 4294967288) := (e103 235 i (by first | decide | omega)).trans kz
    refine ex_go (S := (147, l2, [], t103, n, 0)) rfl (fun _ => rfl) rfl ?_
    refine gx_incS (i := 6) (a := i) (x := 1) rfl (fun _ => rfl) l2_6 (by first | decide | omega) rfl (fun l7 hl7 ml7 => ?_)
    have l7_0 : en_ld l7 0 = some (gx_r 233) := ml7 0 _ l2_0 rfl
    have l7_1 : en_ld l7 1 = some (.inl mo) := ml7 1 _ l2_1 rfl
    have l7_2 : en_ld l7 2 = some (.inl me) := ml7 2 _ l2_2 rfl
    have l7_3 : en_ld l7 3 = some (.inl ti) := ml7 3 _ l2_3 rfl
    have l7_4 : en_ld l7 4 = some (.inl ou) := ml7 4 _ l2_4 rfl
    have l7_7 : en_ld l7 7 = some (.inl 4294967288) := ml7 7 _ l2_7 rfl
    have l7_5 : en_ld l7 5 = some (.inl (h - 1)) := ml7 5 _ hl2 rfl
    refine ex_go (S := (6, l7, [], t103, n, 0)) rfl (fun _ => rfl) rfl ?_
    exact hQ _ t103 g103 (fun c j h9 => e103 c j (by first | decide | omega)) k103 l7_0 l7_1 l7_2 l7_3 l7_4 l7_5 hl7
  · refine gx_ld (i := 6) (d := 0) (v := .inl i) rfl (fun _ => rfl) h6 rfl rfl ?_
    refine gx_ld (i := 0) (d := 2) (v := gx_r 233) rfl (fun _ => rfl) h0 rfl rfl ?_
    refine gxo_get (a := 233) rfl g0 rfl rfl ks rfl ?_
    refine gx_2f (c := .ge) rfl (by first | decide | omega) (by first | decide | omega) (show ¬ (s ≤ i) from by omega) rfl ?_
    refine gx_ld (i := 0) (d := 2) (v := gx_r 233) rfl (fun _ => rfl) h0 rfl rfl ?_
    refine gxo_ref (a := 233) (c := 235) rfl g0 rfl rfl rfl rfl rfl ?_
    refine gx_ld (i := 6) (d := 0) (v := .inl i) rfl (fun _ => rfl) h6 rfl rfl ?_
    refine gx_ag (v := .inl 4294967292) (cb := fun c => Nat.beq c 0) rfl (fun _ => rfl) g0 rfl rfl kz (by first | decide | omega) rfl ?_
    refine gx_sto (i := 7) (d := 0) rfl (fun _ => rfl) rfl rfl (fun l1 hl1 ml1 => ?_)
    have l1_0 : en_ld l1 0 = some (gx_r 233) := ml1 0 _ h0 rfl
    have l1_1 : en_ld l1 1 = some (.inl mo) := ml1 1 _ hm rfl
    have l1_2 : en_ld l1 2 = some (.inl me) := ml1 2 _ ha rfl
    have l1_3 : en_ld l1 3 = some (.inl ti) := ml1 3 _ hb rfl
    have l1_4 : en_ld l1 4 = some (.inl ou) := ml1 4 _ ho4 rfl
    have l1_5 : en_ld l1 5 = some (.inl h) := ml1 5 _ h5 rfl
    have l1_6 : en_ld l1 6 = some (.inl i) := ml1 6 _ h6 rfl
    refine gx_ld (i := 7) (d := 0) (v := .inl 4294967292) rfl (fun _ => rfl) hl1 rfl rfl ?_
    refine ex_go (S := (27, l1, [.inl 4294967295, .inl 4294967292], t0, n, 0)) rfl (fun _ => rfl) rfl ?_
    refine ex_go (S := (64, l1, [], t0, n, 0)) rfl (fun _ => rfl) rfl ?_
    refine gx_ld (i := 7) (d := 0) (v := .inl 4294967292) rfl (fun _ => rfl) hl1 rfl rfl ?_
    refine ex_go (S := (69, l1, [], t0, n, 0)) rfl (fun _ => rfl) rfl ?_
    refine gx_ld (i := 7) (d := 0) (v := .inl 4294967292) rfl (fun _ => rfl) hl1 rfl rfl ?_
    refine ex_go (S := (73, l1, [.inl 4294967288, .inl 4294967292], t0, n, 0)) rfl (fun _ => rfl) rfl ?_
    refine ex_go (S := (76, l1, [], t0, n, 0)) rfl (fun _ => rfl) rfl ?_
    refine gx_ld (i := 5) (d := 0) (v := .inl h) rfl (fun _ => rfl) l1_5 rfl rfl ?_
    refine ex_go (S := (79, l1, [.inl 1, .inl h], t0, n, 0)) rfl (fun _ => rfl) rfl ?_
    refine gx_2f (c := .le) rfl (by first | decide | omega) (by first | decide | omega) (show ¬ (h ≤ 1) from by omega) rfl ?_
    refine gx_decS (i := 5) (a := h) rfl (fun _ => rfl) l1_5 (by first | decide | omega) (by first | decide | omega) rfl (fun l2 hl2 ml2 => ?_)
    have l2_0 : en_ld l2 0 = some (gx_r 233) := ml2 0 _ l1_0 rfl
    have l2_1 : en_ld l2 1 = some (.inl mo) := ml2 1 _ l1_1 rfl
    have l2_2 : en_ld l2 2 = some (.inl me) := ml2 2 _ l1_2 rfl
    have l2_3 : en_ld l2 3 = some (.inl ti) := ml2 3 _ l1_3 rfl
    have l2_4 : en_ld l2 4 = some (.inl ou) := ml2 4 _ l1_4 rfl
    have l2_6 : en_ld l2 6 = some (.inl i) := ml2 6 _ l1_6 rfl
    have l2_7 : en_ld l2 7 = some (.inl 4294967292) := ml2 7 _ hl1 rfl
    refine gx_ld (i := 0) (d := 2) (v := gx_r 233) rfl (fun _ => rfl) l2_0 rfl rfl ?_
    refine gxo_ref (a := 233) (c := 234) rfl g0 rfl rfl rfl rfl rfl ?_
    refine gx_ld (i := 5) (d := 0) (v := .inl (h - 1)) rfl (fun _ => rfl) hl2 rfl rfl ?_
    refine ex_go (S := (92, l2, [.inl 1, .inl (h - 1), gx_r 234], t0, n, 0)) rfl (fun _ => rfl) rfl ?_
    refine gx_isub rfl (by first | decide | omega) (by first | decide | omega) rfl ?_
    refine gx_ld (i := 7) (d := 0) (v := .inl 4294967292) rfl (fun _ => rfl) l2_7 rfl rfl ?_
    refine gx_ld (i := 0) (d := 2) (v := gx_r 233) rfl (fun _ => rfl) l2_0 rfl rfl ?_
    refine gxo_ref (a := 233) (c := 234) rfl g0 rfl rfl rfl rfl rfl ?_
    refine gx_ld (i := 5) (d := 0) (v := .inl (h - 1)) rfl (fun _ => rfl) hl2 rfl rfl ?_
    refine ex_go (S := (102, l2, [.inl 1, .inl (h - 1), gx_r 234, .inl 4294967292, .inl ((h - 1) - 1), gx_r 234], t0, n, 0)) rfl (fun _ => rfl) rfl ?_
    refine gx_isub rfl (by first | decide | omega) (by first | decide | omega) rfl ?_
    refine gx_ag (v := .inl x) (cb := fun c => Nat.beq c 0) rfl (fun _ => rfl) g0 rfl rfl kx (by first | decide | omega) rfl ?_
    refine gx_ld (i := 0) (d := 2) (v := gx_r 233) rfl (fun _ => rfl) l2_0 rfl rfl ?_
    refine gxo_ref (a := 233) (c := 234) rfl g0 rfl rfl rfl rfl rfl ?_
    refine gx_ld (i := 5) (d := 0) (v := .inl (h - 1)) rfl (fun _ => rfl) hl2 rfl rfl ?_
    refine gx_ag (v := .inl y) (cb := fun c => Nat.beq c 0) rfl (fun _ => rfl) g0 rfl rfl ky (by first | decide | omega) rfl ?_
    have hvb := vb_lt (o := opm 4294967292) (a := x) (b := y)
    refine ex_stat rfl rfl rfl rfl rfl (pc_joined d n (t0 := t0) (z := 4294967292) (x := x) (y := y) (by first | decide | omega) (by first | decide | omega) (by first | decide | omega)) (Nat.le_refl _) rfl ?_
    show en_ex _ _ _ _ (114, l2, [.inl (vb (opm 4294967292) x y), .inl ((h - 1) - 1), gx_r 234], t0, n, 0) _
    refine gx_ap rfl (fun _ => rfl) g0 rfl rfl rfl (show (h - 1) - 1 < 25 from by omega) (gx_run1 (show (h - 1) - 1 < 25 from by omega)) (gx_full (by first | decide | omega)) rfl (fun t103 g103 k103 e103 => ?_)
    have k4 : ai_hv t103 234 (h - 1) = some (.inl y) := (e103 234 (h - 1) (by first | decide | omega)).trans ky
    have k5 : ai_hv t103 233 2 = some (.inl s) := (e103 233 2 (by first | decide | omega)).trans ks
    have k6 : ai_hv t103 235 i = some (.inl 4294967292) := (e103 235 i (by first | decide | omega)).trans kz
    refine ex_go (S := (147, l2, [], t103, n, 0)) rfl (fun _ => rfl) rfl ?_
    refine gx_incS (i := 6) (a := i) (x := 1) rfl (fun _ => rfl) l2_6 (by first | decide | omega) rfl (fun l7 hl7 ml7 => ?_)
    have l7_0 : en_ld l7 0 = some (gx_r 233) := ml7 0 _ l2_0 rfl
    have l7_1 : en_ld l7 1 = some (.inl mo) := ml7 1 _ l2_1 rfl
    have l7_2 : en_ld l7 2 = some (.inl me) := ml7 2 _ l2_2 rfl
    have l7_3 : en_ld l7 3 = some (.inl ti) := ml7 3 _ l2_3 rfl
    have l7_4 : en_ld l7 4 = some (.inl ou) := ml7 4 _ l2_4 rfl
    have l7_7 : en_ld l7 7 = some (.inl 4294967292) := ml7 7 _ l2_7 rfl
    have l7_5 : en_ld l7 5 = some (.inl (h - 1)) := ml7 5 _ hl2 rfl
    refine ex_go (S := (6, l7, [], t103, n, 0)) rfl (fun _ => rfl) rfl ?_
    exact hQ _ t103 g103 (fun c j h9 => e103 c j (by first | decide | omega)) k103 l7_0 l7_1 l7_2 l7_3 l7_4 l7_5 hl7
  · refine gx_ld (i := 6) (d := 0) (v := .inl i) rfl (fun _ => rfl) h6 rfl rfl ?_
    refine gx_ld (i := 0) (d := 2) (v := gx_r 233) rfl (fun _ => rfl) h0 rfl rfl ?_
    refine gxo_get (a := 233) rfl g0 rfl rfl ks rfl ?_
    refine gx_2f (c := .ge) rfl (by first | decide | omega) (by first | decide | omega) (show ¬ (s ≤ i) from by omega) rfl ?_
    refine gx_ld (i := 0) (d := 2) (v := gx_r 233) rfl (fun _ => rfl) h0 rfl rfl ?_
    refine gxo_ref (a := 233) (c := 235) rfl g0 rfl rfl rfl rfl rfl ?_
    refine gx_ld (i := 6) (d := 0) (v := .inl i) rfl (fun _ => rfl) h6 rfl rfl ?_
    refine gx_ag (v := .inl 4294967291) (cb := fun c => Nat.beq c 0) rfl (fun _ => rfl) g0 rfl rfl kz (by first | decide | omega) rfl ?_
    refine gx_sto (i := 7) (d := 0) rfl (fun _ => rfl) rfl rfl (fun l1 hl1 ml1 => ?_)
    have l1_0 : en_ld l1 0 = some (gx_r 233) := ml1 0 _ h0 rfl
    have l1_1 : en_ld l1 1 = some (.inl mo) := ml1 1 _ hm rfl
    have l1_2 : en_ld l1 2 = some (.inl me) := ml1 2 _ ha rfl
    have l1_3 : en_ld l1 3 = some (.inl ti) := ml1 3 _ hb rfl
    have l1_4 : en_ld l1 4 = some (.inl ou) := ml1 4 _ ho4 rfl
    have l1_5 : en_ld l1 5 = some (.inl h) := ml1 5 _ h5 rfl
    have l1_6 : en_ld l1 6 = some (.inl i) := ml1 6 _ h6 rfl
    refine gx_ld (i := 7) (d := 0) (v := .inl 4294967291) rfl (fun _ => rfl) hl1 rfl rfl ?_
    refine ex_go (S := (27, l1, [.inl 4294967295, .inl 4294967291], t0, n, 0)) rfl (fun _ => rfl) rfl ?_
    refine ex_go (S := (64, l1, [], t0, n, 0)) rfl (fun _ => rfl) rfl ?_
    refine gx_ld (i := 7) (d := 0) (v := .inl 4294967291) rfl (fun _ => rfl) hl1 rfl rfl ?_
    refine ex_go (S := (69, l1, [], t0, n, 0)) rfl (fun _ => rfl) rfl ?_
    refine gx_ld (i := 7) (d := 0) (v := .inl 4294967291) rfl (fun _ => rfl) hl1 rfl rfl ?_
    refine ex_go (S := (73, l1, [.inl 4294967288, .inl 4294967291], t0, n, 0)) rfl (fun _ => rfl) rfl ?_
    refine ex_go (S := (76, l1, [], t0, n, 0)) rfl (fun _ => rfl) rfl ?_
    refine gx_ld (i := 5) (d := 0) (v := .inl h) rfl (fun _ => rfl) l1_5 rfl rfl ?_
    refine ex_go (S := (79, l1, [.inl 1, .inl h], t0, n, 0)) rfl (fun _ => rfl) rfl ?_
    refine gx_2f (c := .le) rfl (by first | decide | omega) (by first | decide | omega) (show ¬ (h ≤ 1) from by omega) rfl ?_
    refine gx_decS (i := 5) (a := h) rfl (fun _ => rfl) l1_5 (by first | decide | omega) (by first | decide | omega) rfl (fun l2 hl2 ml2 => ?_)
    have l2_0 : en_ld l2 0 = some (gx_r 233) := ml2 0 _ l1_0 rfl
    have l2_1 : en_ld l2 1 = some (.inl mo) := ml2 1 _ l1_1 rfl
    have l2_2 : en_ld l2 2 = some (.inl me) := ml2 2 _ l1_2 rfl
    have l2_3 : en_ld l2 3 = some (.inl ti) := ml2 3 _ l1_3 rfl
    have l2_4 : en_ld l2 4 = some (.inl ou) := ml2 4 _ l1_4 rfl
    have l2_6 : en_ld l2 6 = some (.inl i) := ml2 6 _ l1_6 rfl
    have l2_7 : en_ld l2 7 = some (.inl 4294967291) := ml2 7 _ hl1 rfl
    refine gx_ld (i := 0) (d := 2) (v := gx_r 233) rfl (fun _ => rfl) l2_0 rfl rfl ?_
    refine gxo_ref (a := 233) (c := 234) rfl g0 rfl rfl rfl rfl rfl ?_
    refine gx_ld (i := 5) (d := 0) (v := .inl (h - 1)) rfl (fun _ => rfl) hl2 rfl rfl ?_
    refine ex_go (S := (92, l2, [.inl 1, .inl (h - 1), gx_r 234], t0, n, 0)) rfl (fun _ => rfl) rfl ?_
    refine gx_isub rfl (by first | decide | omega) (by first | decide | omega) rfl ?_
    refine gx_ld (i := 7) (d := 0) (v := .inl 4294967291) rfl (fun _ => rfl) l2_7 rfl rfl ?_
    refine gx_ld (i := 0) (d := 2) (v := gx_r 233) rfl (fun _ => rfl) l2_0 rfl rfl ?_
    refine gxo_ref (a := 233) (c := 234) rfl g0 rfl rfl rfl rfl rfl ?_
    refine gx_ld (i := 5) (d := 0) (v := .inl (h - 1)) rfl (fun _ => rfl) hl2 rfl rfl ?_
    refine ex_go (S := (102, l2, [.inl 1, .inl (h - 1), gx_r 234, .inl 4294967291, .inl ((h - 1) - 1), gx_r 234], t0, n, 0)) rfl (fun _ => rfl) rfl ?_
    refine gx_isub rfl (by first | decide | omega) (by first | decide | omega) rfl ?_
    refine gx_ag (v := .inl x) (cb := fun c => Nat.beq c 0) rfl (fun _ => rfl) g0 rfl rfl kx (by first | decide | omega) rfl ?_
    refine gx_ld (i := 0) (d := 2) (v := gx_r 233) rfl (fun _ => rfl) l2_0 rfl rfl ?_
    refine gxo_ref (a := 233) (c := 234) rfl g0 rfl rfl rfl rfl rfl ?_
    refine gx_ld (i := 5) (d := 0) (v := .inl (h - 1)) rfl (fun _ => rfl) hl2 rfl rfl ?_
    refine gx_ag (v := .inl y) (cb := fun c => Nat.beq c 0) rfl (fun _ => rfl) g0 rfl rfl ky (by first | decide | omega) rfl ?_
    have hvb := vb_lt (o := opm 4294967291) (a := x) (b := y)
    refine ex_stat rfl rfl rfl rfl rfl (pc_joined d n (t0 := t0) (z := 4294967291) (x := x) (y := y) (by first | decide | omega) (by first | decide | omega) (by first | decide | omega)) (Nat.le_refl _) rfl ?_
    show en_ex _ _ _ _ (114, l2, [.inl (vb (opm 4294967291) x y), .inl ((h - 1) - 1), gx_r 234], t0, n, 0) _
    refine gx_ap rfl (fun _ => rfl) g0 rfl rfl rfl (show (h - 1) - 1 < 25 from by omega) (gx_run1 (show (h - 1) - 1 < 25 from by omega)) (gx_full (by first | decide | omega)) rfl (fun t103 g103 k103 e103 => ?_)
    have k4 : ai_hv t103 234 (h - 1) = some (.inl y) := (e103 234 (h - 1) (by first | decide | omega)).trans ky
    have k5 : ai_hv t103 233 2 = some (.inl s) := (e103 233 2 (by first | decide | omega)).trans ks
    have k6 : ai_hv t103 235 i = some (.inl 4294967291) := (e103 235 i (by first | decide | omega)).trans kz
    refine ex_go (S := (147, l2, [], t103, n, 0)) rfl (fun _ => rfl) rfl ?_
    refine gx_incS (i := 6) (a := i) (x := 1) rfl (fun _ => rfl) l2_6 (by first | decide | omega) rfl (fun l7 hl7 ml7 => ?_)
    have l7_0 : en_ld l7 0 = some (gx_r 233) := ml7 0 _ l2_0 rfl
    have l7_1 : en_ld l7 1 = some (.inl mo) := ml7 1 _ l2_1 rfl
    have l7_2 : en_ld l7 2 = some (.inl me) := ml7 2 _ l2_2 rfl
    have l7_3 : en_ld l7 3 = some (.inl ti) := ml7 3 _ l2_3 rfl
    have l7_4 : en_ld l7 4 = some (.inl ou) := ml7 4 _ l2_4 rfl
    have l7_7 : en_ld l7 7 = some (.inl 4294967291) := ml7 7 _ l2_7 rfl
    have l7_5 : en_ld l7 5 = some (.inl (h - 1)) := ml7 5 _ hl2 rfl
    refine ex_go (S := (6, l7, [], t103, n, 0)) rfl (fun _ => rfl) rfl ?_
    exact hQ _ t103 g103 (fun c j h9 => e103 c j (by first | decide | omega)) k103 l7_0 l7_1 l7_2 l7_3 l7_4 l7_5 hl7
  · refine gx_ld (i := 6) (d := 0) (v := .inl i) rfl (fun _ => rfl) h6 rfl rfl ?_
    refine gx_ld (i := 0) (d := 2) (v := gx_r 233) rfl (fun _ => rfl) h0 rfl rfl ?_
    refine gxo_get (a := 233) rfl g0 rfl rfl ks rfl ?_
    refine gx_2f (c := .ge) rfl (by first | decide | omega) (by first | decide | omega) (show ¬ (s ≤ i) from by omega) rfl ?_
    refine gx_ld (i := 0) (d := 2) (v := gx_r 233) rfl (fun _ => rfl) h0 rfl rfl ?_
    refine gxo_ref (a := 233) (c := 235) rfl g0 rfl rfl rfl rfl rfl ?_
    refine gx_ld (i := 6) (d := 0) (v := .inl i) rfl (fun _ => rfl) h6 rfl rfl ?_
    refine gx_ag (v := .inl 4294967294) (cb := fun c => Nat.beq c 0) rfl (fun _ => rfl) g0 rfl rfl kz (by first | decide | omega) rfl ?_
    refine gx_sto (i := 7) (d := 0) rfl (fun _ => rfl) rfl rfl (fun l1 hl1 ml1 => ?_)
    have l1_0 : en_ld l1 0 = some (gx_r 233) := ml1 0 _ h0 rfl
    have l1_1 : en_ld l1 1 = some (.inl mo) := ml1 1 _ hm rfl
    have l1_2 : en_ld l1 2 = some (.inl me) := ml1 2 _ ha rfl
    have l1_3 : en_ld l1 3 = some (.inl ti) := ml1 3 _ hb rfl
    have l1_4 : en_ld l1 4 = some (.inl ou) := ml1 4 _ ho4 rfl
    have l1_5 : en_ld l1 5 = some (.inl h) := ml1 5 _ h5 rfl
    have l1_6 : en_ld l1 6 = some (.inl i) := ml1 6 _ h6 rfl
    refine gx_ld (i := 7) (d := 0) (v := .inl 4294967294) rfl (fun _ => rfl) hl1 rfl rfl ?_
    refine ex_go (S := (27, l1, [.inl 4294967295, .inl 4294967294], t0, n, 0)) rfl (fun _ => rfl) rfl ?_
    refine ex_go (S := (64, l1, [], t0, n, 0)) rfl (fun _ => rfl) rfl ?_
    refine gx_ld (i := 7) (d := 0) (v := .inl 4294967294) rfl (fun _ => rfl) hl1 rfl rfl ?_
    refine ex_go (S := (69, l1, [], t0, n, 0)) rfl (fun _ => rfl) rfl ?_
    refine gx_ld (i := 7) (d := 0) (v := .inl 4294967294) rfl (fun _ => rfl) hl1 rfl rfl ?_
    refine ex_go (S := (73, l1, [.inl 4294967288, .inl 4294967294], t0, n, 0)) rfl (fun _ => rfl) rfl ?_
    refine ex_go (S := (76, l1, [], t0, n, 0)) rfl (fun _ => rfl) rfl ?_
    refine gx_ld (i := 5) (d := 0) (v := .inl h) rfl (fun _ => rfl) l1_5 rfl rfl ?_
    refine ex_go (S := (79, l1, [.inl 1, .inl h], t0, n, 0)) rfl (fun _ => rfl) rfl ?_
    refine gx_2f (c := .le) rfl (by first | decide | omega) (by first | decide | omega) (show ¬ (h ≤ 1) from by omega) rfl ?_
    refine gx_decS (i := 5) (a := h) rfl (fun _ => rfl) l1_5 (by first | decide | omega) (by first | decide | omega) rfl (fun l2 hl2 ml2 => ?_)
    have l2_0 : en_ld l2 0 = some (gx_r 233) := ml2 0 _ l1_0 rfl
    have l2_1 : en_ld l2 1 = some (.inl mo) := ml2 1 _ l1_1 rfl
    have l2_2 : en_ld l2 2 = some (.inl me) := ml2 2 _ l1_2 rfl
    have l2_3 : en_ld l2 3 = some (.inl ti) := ml2 3 _ l1_3 rfl
    have l2_4 : en_ld l2 4 = some (.inl ou) := ml2 4 _ l1_4 rfl
    have l2_6 : en_ld l2 6 = some (.inl i) := ml2 6 _ l1_6 rfl
    have l2_7 : en_ld l2 7 = some (.inl 4294967294) := ml2 7 _ hl1 rfl
    refine gx_ld (i := 0) (d := 2) (v := gx_r 233) rfl (fun _ => rfl) l2_0 rfl rfl ?_
    refine gxo_ref (a := 233) (c := 234) rfl g0 rfl rfl rfl rfl rfl ?_
    refine gx_ld (i := 5) (d := 0) (v := .inl (h - 1)) rfl (fun _ => rfl) hl2 rfl rfl ?_
    refine ex_go (S := (92, l2, [.inl 1, .inl (h - 1), gx_r 234], t0, n, 0)) rfl (fun _ => rfl) rfl ?_
    refine gx_isub rfl (by first | decide | omega) (by first | decide | omega) rfl ?_
    refine gx_ld (i := 7) (d := 0) (v := .inl 4294967294) rfl (fun _ => rfl) l2_7 rfl rfl ?_
    refine gx_ld (i := 0) (d := 2) (v := gx_r 233) rfl (fun _ => rfl) l2_0 rfl rfl ?_
    refine gxo_ref (a := 233) (c := 234) rfl g0 rfl rfl rfl rfl rfl ?_
    refine gx_ld (i := 5) (d := 0) (v := .inl (h - 1)) rfl (fun _ => rfl) hl2 rfl rfl ?_
    refine ex_go (S := (102, l2, [.inl 1, .inl (h - 1), gx_r 234, .inl 4294967294, .inl ((h - 1) - 1), gx_r 234], t0, n, 0)) rfl (fun _ => rfl) rfl ?_
    refine gx_isub rfl (by first | decide | omega) (by first | decide | omega) rfl ?_
    refine gx_ag (v := .inl x) (cb := fun c => Nat.beq c 0) rfl (fun _ => rfl) g0 rfl rfl kx (by first | decide | omega) rfl ?_
    refine gx_ld (i := 0) (d := 2) (v := gx_r 233) rfl (fun _ => rfl) l2_0 rfl rfl ?_
    refine gxo_ref (a := 233) (c := 234) rfl g0 rfl rfl rfl rfl rfl ?_
    refine gx_ld (i := 5) (d := 0) (v := .inl (h - 1)) rfl (fun _ => rfl) hl2 rfl rfl ?_
    refine gx_ag (v := .inl y) (cb := fun c => Nat.beq c 0) rfl (fun _ => rfl) g0 rfl rfl ky (by first | decide | omega) rfl ?_
    have hvb := vb_lt (o := opm 4294967294) (a := x) (b := y)
    refine ex_stat rfl rfl rfl rfl rfl (pc_joined d n (t0 := t0) (z := 4294967294) (x := x) (y := y) (by first | decide | omega) (by first | decide | omega) (by first | decide | omega)) (Nat.le_refl _) rfl ?_
    show en_ex _ _ _ _ (114, l2, [.inl (vb (opm 4294967294) x y), .inl ((h - 1) - 1), gx_r 234], t0, n, 0) _
    refine gx_ap rfl (fun _ => rfl) g0 rfl rfl rfl (show (h - 1) - 1 < 25 from by omega) (gx_run1 (show (h - 1) - 1 < 25 from by omega)) (gx_full (by first | decide | omega)) rfl (fun t103 g103 k103 e103 => ?_)
    have k4 : ai_hv t103 234 (h - 1) = some (.inl y) := (e103 234 (h - 1) (by first | decide | omega)).trans ky
    have k5 : ai_hv t103 233 2 = some (.inl s) := (e103 233 2 (by first | decide | omega)).trans ks
    have k6 : ai_hv t103 235 i = some (.inl 4294967294) := (e103 235 i (by first | decide | omega)).trans kz
    refine ex_go (S := (147, l2, [], t103, n, 0)) rfl (fun _ => rfl) rfl ?_
    refine gx_incS (i := 6) (a := i) (x := 1) rfl (fun _ => rfl) l2_6 (by first | decide | omega) rfl (fun l7 hl7 ml7 => ?_)
    have l7_0 : en_ld l7 0 = some (gx_r 233) := ml7 0 _ l2_0 rfl
    have l7_1 : en_ld l7 1 = some (.inl mo) := ml7 1 _ l2_1 rfl
    have l7_2 : en_ld l7 2 = some (.inl me) := ml7 2 _ l2_2 rfl
    have l7_3 : en_ld l7 3 = some (.inl ti) := ml7 3 _ l2_3 rfl
    have l7_4 : en_ld l7 4 = some (.inl ou) := ml7 4 _ l2_4 rfl
    have l7_7 : en_ld l7 7 = some (.inl 4294967294) := ml7 7 _ l2_7 rfl
    have l7_5 : en_ld l7 5 = some (.inl (h - 1)) := ml7 5 _ hl2 rfl
    refine ex_go (S := (6, l7, [], t103, n, 0)) rfl (fun _ => rfl) rfl ?_
    exact hQ _ t103 g103 (fun c j h9 => e103 c j (by first | decide | omega)) k103 l7_0 l7_1 l7_2 l7_3 l7_4 l7_5 hl7
  · refine gx_ld (i := 6) (d := 0) (v := .inl i) rfl (fun _ => rfl) h6 rfl rfl ?_
    refine gx_ld (i := 0) (d := 2) (v := gx_r 233) rfl (fun _ => rfl) h0 rfl rfl ?_
    refine gxo_get (a := 233) rfl g0 rfl rfl ks rfl ?_
    refine gx_2f (c := .ge) rfl (by first | decide | omega) (by first | decide | omega) (show ¬ (s ≤ i) from by omega) rfl ?_
    refine gx_ld (i := 0) (d := 2) (v := gx_r 233) rfl (fun _ => rfl) h0 rfl rfl ?_
    refine gxo_ref (a := 233) (c := 235) rfl g0 rfl rfl rfl rfl rfl ?_
    refine gx_ld (i := 6) (d := 0) (v := .inl i) rfl (fun _ => rfl) h6 rfl rfl ?_
    refine gx_ag (v := .inl 4294967293) (cb := fun c => Nat.beq c 0) rfl (fun _ => rfl) g0 rfl rfl kz (by first | decide | omega) rfl ?_
    refine gx_sto (i := 7) (d := 0) rfl (fun _ => rfl) rfl rfl (fun l1 hl1 ml1 => ?_)
    have l1_0 : en_ld l1 0 = some (gx_r 233) := ml1 0 _ h0 rfl
    have l1_1 : en_ld l1 1 = some (.inl mo) := ml1 1 _ hm rfl
    have l1_2 : en_ld l1 2 = some (.inl me) := ml1 2 _ ha rfl
    have l1_3 : en_ld l1 3 = some (.inl ti) := ml1 3 _ hb rfl
    have l1_4 : en_ld l1 4 = some (.inl ou) := ml1 4 _ ho4 rfl
    have l1_5 : en_ld l1 5 = some (.inl h) := ml1 5 _ h5 rfl
    have l1_6 : en_ld l1 6 = some (.inl i) := ml1 6 _ h6 rfl
    refine gx_ld (i := 7) (d := 0) (v := .inl 4294967293) rfl (fun _ => rfl) hl1 rfl rfl ?_
    refine ex_go (S := (27, l1, [.inl 4294967295, .inl 4294967293], t0, n, 0)) rfl (fun _ => rfl) rfl ?_
    refine ex_go (S := (64, l1, [], t0, n, 0)) rfl (fun _ => rfl) rfl ?_
    refine gx_ld (i := 7) (d := 0) (v := .inl 4294967293) rfl (fun _ => rfl) hl1 rfl rfl ?_
    refine ex_go (S := (69, l1, [], t0, n, 0)) rfl (fun _ => rfl) rfl ?_
    refine gx_ld (i := 7) (d := 0) (v := .inl 4294967293) rfl (fun _ => rfl) hl1 rfl rfl ?_
    refine ex_go (S := (73, l1, [.inl 4294967288, .inl 4294967293], t0, n, 0)) rfl (fun _ => rfl) rfl ?_
    refine ex_go (S := (76, l1, [], t0, n, 0)) rfl (fun _ => rfl) rfl ?_
    refine gx_ld (i := 5) (d := 0) (v := .inl h) rfl (fun _ => rfl) l1_5 rfl rfl ?_
    refine ex_go (S := (79, l1, [.inl 1, .inl h], t0, n, 0)) rfl (fun _ => rfl) rfl ?_
    refine gx_2f (c := .le) rfl (by first | decide | omega) (by first | decide | omega) (show ¬ (h ≤ 1) from by omega) rfl ?_
    refine gx_decS (i := 5) (a := h) rfl (fun _ => rfl) l1_5 (by first | decide | omega) (by first | decide | omega) rfl (fun l2 hl2 ml2 => ?_)
    have l2_0 : en_ld l2 0 = some (gx_r 233) := ml2 0 _ l1_0 rfl
    have l2_1 : en_ld l2 1 = some (.inl mo) := ml2 1 _ l1_1 rfl
    have l2_2 : en_ld l2 2 = some (.inl me) := ml2 2 _ l1_2 rfl
    have l2_3 : en_ld l2 3 = some (.inl ti) := ml2 3 _ l1_3 rfl
    have l2_4 : en_ld l2 4 = some (.inl ou) := ml2 4 _ l1_4 rfl
    have l2_6 : en_ld l2 6 = some (.inl i) := ml2 6 _ l1_6 rfl
    have l2_7 : en_ld l2 7 = some (.inl 4294967293) := ml2 7 _ hl1 rfl
    refine gx_ld (i := 0) (d := 2) (v := gx_r 233) rfl (fun _ => rfl) l2_0 rfl rfl ?_
    refine gxo_ref (a := 233) (c := 234) rfl g0 rfl rfl rfl rfl rfl ?_
    refine gx_ld (i := 5) (d := 0) (v := .inl (h - 1)) rfl (fun _ => rfl) hl2 rfl rfl ?_
    refine ex_go (S := (92, l2, [.inl 1, .inl (h - 1), gx_r 234], t0, n, 0)) rfl (fun _ => rfl) rfl ?_
    refine gx_isub rfl (by first | decide | omega) (by first | decide | omega) rfl ?_
    refine gx_ld (i := 7) (d := 0) (v := .inl 4294967293) rfl (fun _ => rfl) l2_7 rfl rfl ?_
    refine gx_ld (i := 0) (d := 2) (v := gx_r 233) rfl (fun _ => rfl) l2_0 rfl rfl ?_
    refine gxo_ref (a := 233) (c := 234) rfl g0 rfl rfl rfl rfl rfl ?_
    refine gx_ld (i := 5) (d := 0) (v := .inl (h - 1)) rfl (fun _ => rfl) hl2 rfl rfl ?_
    refine ex_go (S := (102, l2, [.inl 1, .inl (h - 1), gx_r 234, .inl 4294967293, .inl ((h - 1) - 1), gx_r 234], t0, n, 0)) rfl (fun _ => rfl) rfl ?_
    refine gx_isub rfl (by first | decide | omega) (by first | decide | omega) rfl ?_
    refine gx_ag (v := .inl x) (cb := fun c => Nat.beq c 0) rfl (fun _ => rfl) g0 rfl rfl kx (by first | decide | omega) rfl ?_
    refine gx_ld (i := 0) (d := 2) (v := gx_r 233) rfl (fun _ => rfl) l2_0 rfl rfl ?_
    refine gxo_ref (a := 233) (c := 234) rfl g0 rfl rfl rfl rfl rfl ?_
    refine gx_ld (i := 5) (d := 0) (v := .inl (h - 1)) rfl (fun _ => rfl) hl2 rfl rfl ?_
    refine gx_ag (v := .inl y) (cb := fun c => Nat.beq c 0) rfl (fun _ => rfl) g0 rfl rfl ky (by first | decide | omega) rfl ?_
    have hvb := vb_lt (o := opm 4294967293) (a := x) (b := y)
    refine ex_stat rfl rfl rfl rfl rfl (pc_joined d n (t0 := t0) (z := 4294967293) (x := x) (y := y) (by first | decide | omega) (by first | decide | omega) (by first | decide | omega)) (Nat.le_refl _) rfl ?_
    show en_ex _ _ _ _ (114, l2, [.inl (vb (opm 4294967293) x y), .inl ((h - 1) - 1), gx_r 234], t0, n, 0) _
    refine gx_ap rfl (fun _ => rfl) g0 rfl rfl rfl (show (h - 1) - 1 < 25 from by omega) (gx_run1 (show (h - 1) - 1 < 25 from by omega)) (gx_full (by first | decide | omega)) rfl (fun t103 g103 k103 e103 => ?_)
    have k4 : ai_hv t103 234 (h - 1) = some (.inl y) := (e103 234 (h - 1) (by first | decide | omega)).trans ky
    have k5 : ai_hv t103 233 2 = some (.inl s) := (e103 233 2 (by first | decide | omega)).trans ks
    have k6 : ai_hv t103 235 i = some (.inl 4294967293) := (e103 235 i (by first | decide | omega)).trans kz
    refine ex_go (S := (147, l2, [], t103, n, 0)) rfl (fun _ => rfl) rfl ?_
    refine gx_incS (i := 6) (a := i) (x := 1) rfl (fun _ => rfl) l2_6 (by first | decide | omega) rfl (fun l7 hl7 ml7 => ?_)
    have l7_0 : en_ld l7 0 = some (gx_r 233) := ml7 0 _ l2_0 rfl
    have l7_1 : en_ld l7 1 = some (.inl mo) := ml7 1 _ l2_1 rfl
    have l7_2 : en_ld l7 2 = some (.inl me) := ml7 2 _ l2_2 rfl
    have l7_3 : en_ld l7 3 = some (.inl ti) := ml7 3 _ l2_3 rfl
    have l7_4 : en_ld l7 4 = some (.inl ou) := ml7 4 _ l2_4 rfl
    have l7_7 : en_ld l7 7 = some (.inl 4294967293) := ml7 7 _ l2_7 rfl
    have l7_5 : en_ld l7 5 = some (.inl (h - 1)) := ml7 5 _ hl2 rfl
    refine ex_go (S := (6, l7, [], t103, n, 0)) rfl (fun _ => rfl) rfl ?_
    exact hQ _ t103 g103 (fun c j h9 => e103 c j (by first | decide | omega)) k103 l7_0 l7_1 l7_2 l7_3 l7_4 l7_5 hl7
theorem pv233_end (d n : Nat) {t0 : en_H} {cl : en_L} {mo me ti ou h i s v : Nat} {Q : en_O → Prop} (g0 : ai_HG ah_G t0) (h0 : en_ld cl 0 = some (gx_r 233)) (hm : en_ld cl 1 = some (.inl mo)) (ha : en_ld cl 2 = some (.inl me)) (hb : en_ld cl 3 = some (.inl ti)) (ho4 : en_ld cl 4 = some (.inl ou)) (h5 : en_ld cl 5 = some (.inl h)) (h6 : en_ld cl 6 = some (.inl i)) (ks : ai_hv t0 233 2 = some (.inl s)) (hs : s ≤ 1000) (hi : i = s) (hh : h = 1) (hmo : mo < 2147483648) (kv : ai_hv t0 234 0 = some (.inl v)) (hv : v < 4294967296) (hQ : Q (.inl (some (.inl (vcl mo v)), t0, n, 0))) : en_ex none (en_u (d + 1)) (en_code 210) (fun _ => false) (6, cl, [], t0, n, 0) Q := by
  refine gx_ld (i := 6) (d := 0) (v := .inl i) rfl (fun _ => rfl) h6 rfl rfl ?_
  refine gx_ld (i := 0) (d := 2) (v := gx_r 233) rfl (fun _ => rfl) h0 rfl rfl ?_
  refine gxo_get (a := 233) rfl g0 rfl rfl ks rfl ?_
  refine gx_2t (c := .ge) rfl (by first | decide | omega) (by first | decide | omega) (show s ≤ i from by omega) rfl ?_
  refine gx_ld (i := 5) (d := 0) (v := .inl h) rfl (fun _ => rfl) h5 rfl rfl ?_
  refine gx_1f (c := .le) rfl (by first | decide | omega) (show ¬ (h ≤ 0) from by omega) rfl ?_
  by_cases hvn : v < 2147483648
  · rw [vcl_n hvn] at hQ
    refine ex_go (S := (159, cl, [.inl 0], t0, n, 0)) rfl (fun _ => rfl) rfl ?_
    refine gx_ld (i := 1) (d := 0) (v := .inl mo) rfl (fun _ => rfl) hm rfl rfl ?_
    refine gx_ld (i := 0) (d := 2) (v := gx_r 233) rfl (fun _ => rfl) h0 rfl rfl ?_
    refine gxo_ref (a := 233) (c := 234) rfl g0 rfl rfl rfl rfl rfl ?_
    refine ex_go (S := (165, cl, [.inl 0, gx_r 234, .inl mo, .inl 0], t0, n, 0)) rfl (fun _ => rfl) rfl ?_
    refine gx_ag (v := .inl v) (cb := fun c => Nat.beq c 0) rfl (fun _ => rfl) g0 rfl rfl kv (by first | decide | omega) rfl ?_
    refine gx_inn rfl rfl rfl (zk_min (by first | decide | omega) (by first | decide | omega)) rfl rfl ?_
    refine gx_imm (m := min mo v) rfl rfl ((zk_max (by first | decide | omega) (by first | decide | omega)).trans (by rw [Nat.zero_max])) rfl rfl ?_
    refine ex_go (S := (176, cl, [.inl (min mo v)], t0, n, 0)) rfl (fun _ => rfl) rfl ?_
    refine ex_ret (r := (some (.inl (min mo v)), t0, n, 0)) rfl (fun _ => rfl) ?_
    exact hQ
  · rw [vcl_0 hvn] at hQ
    refine ex_go (S := (159, cl, [.inl 0], t0, n, 0)) rfl (fun _ => rfl) rfl ?_
    refine gx_ld (i := 1) (d := 0) (v := .inl mo) rfl (fun _ => rfl) hm rfl rfl ?_
    refine gx_ld (i := 0) (d := 2) (v := gx_r 233) rfl (fun _ => rfl) h0 rfl rfl ?_
    refine gxo_ref (a := 233) (c := 234) rfl g0 rfl rfl rfl rfl rfl ?_
    refine ex_go (S := (165, cl, [.inl 0, gx_r 234, .inl mo, .inl 0], t0, n, 0)) rfl (fun _ => rfl) rfl ?_
    refine gx_ag (v := .inl v) (cb := fun c => Nat.beq c 0) rfl (fun _ => rfl) g0 rfl rfl kv (by first | decide | omega) rfl ?_
    refine gx_inn (m := v) rfl rfl rfl (zk_minn (by first | decide | omega) (by first | decide | omega) (by first | decide | omega)) rfl rfl ?_
    refine gx_imm (m := 0) rfl rfl (zk_maxn (by first | decide | omega) (by first | decide | omega)) rfl rfl ?_
    refine ex_go (S := (176, cl, [.inl 0], t0, n, 0)) rfl (fun _ => rfl) rfl ?_
    refine ex_ret (r := (some (.inl 0), t0, n, 0)) rfl (fun _ => rfl) ?_
    exact hQ
theorem pv233_l (d n : Nat) {tb : en_H} {mo me ti ou s : Nat} (hmo : mo < 2147483648) (hme : me < 4294967296) (hti : ti < 4294967296) (hou : ou < 4294967296) (kb : ai_hv tb 233 2 = some (.inl s)) (hs : s ≤ 1000) : ∀ (L : List Nat) (i : Nat) (q : List Nat) (cl : en_L) (t0 : en_H), cco tb 233 i L → i + L.length = s → (∀ z, z ∈ L → ∃ fh, vo fh z) → hrun 25 L q.length = some 1 → q.length ≤ 25 → ai_HG ah_G t0 → (∀ c i, c ≠ 234 → ai_hv t0 c i = ai_hv tb c i) → stk t0 234 q → en_ld cl 0 = some (gx_r 233) → en_ld cl 1 = some (.inl mo) → en_ld cl 2 = some (.inl me) → en_ld cl 3 = some (.inl ti) → en_ld cl 4 = some (.inl ou) → en_ld cl 5 = some (.inl q.length) → en_ld cl 6 = some (.inl i) → en_ex none (en_u (d + 1)) (en_code 210) (fun _ => false) (6, cl, [], t0, n, 0) (fun o => ∃ v t1, o = .inl (some (.inl (vcl mo v)), t1, n, 0) ∧ vrun me ti ou L q = [v] ∧ v < 4294967296 ∧ ai_HG ah_G t1 ∧ (∀ c i, c ≠ 234 → ai_hv t1 c i = ai_hv tb c i))
  | [], i, q, cl, t0, hc, hi, hv, hr, hq, g0, e0, hst, l0, l1, l2, l3, l4, l5, l6 => by
    have hr : some q.length = some 1 := hr
    have hl := Option.some.inj hr
    match q, hl, hst, l5 with
    | [v], _, hst, l5 =>
      exact pv233_end d n g0 l0 l1 l2 l3 l4 l5 l6 ((e0 233 2 (by decide)).trans kb) hs hi rfl hmo hst.1 hst.2.1 ⟨v, t0, rfl, rfl, hst.2.1, g0, e0⟩
  | z :: L, i, q, cl, t0, hc, hi, hv, hr, hq, g0, e0, hst, l0, l1, l2, l3, l4, l5, l6 => by
    obtain ⟨c1, c3⟩ := hc
    have hi' : i + (L.length + 1) = s := hi
    have hvz := hv z List.mem_cons_self
    have hvL : ∀ z, z ∈ L → ∃ fh, vo fh z := fun z hz => hv z (List.mem_cons_of_mem _ hz)
    have hr : (if vk z = 0 then (if q.length < 25 then hrun 25 L (q.length + 1) else none) else if vk z = 1 then (if 1 ≤ q.length then hrun 25 L q.length else none) else (if 2 ≤ q.length then hrun 25 L (q.length - 1) else none)) = some 1 := hr
    have k1 : ai_hv t0 235 i = some (.inl z) := (e0 235 i (by decide)).trans c1
    have ks := (e0 233 2 (by decide)).trans kb
    show en_ex none (en_u (d + 1)) (en_code 210) (fun _ => false) (6, cl, [], t0, n, 0) (fun o => ∃ v t1, o = .inl (some (.inl (vcl mo v)), t1, n, 0) ∧ vrun me ti ou L (vs me ti ou z q) = [v] ∧ v < 4294967296 ∧ ai_HG ah_G t1 ∧ (∀ c i, c ≠ 234 → ai_hv t1 c i = ai_hv tb c i))
    by_cases z0 : vk z = 0
    · rw [if_pos z0] at hr
      by_cases hq2 : q.length < 25
      · rw [if_pos hq2] at hr
        have hvs : vs me ti ou z q = vpt me ti ou z :: q := by unfold vs; rw [if_pos z0]
        rw [hvs]
        have hz := vk_nn z0 (Or.inr hvz)
        have hvp : vpt me ti ou z < 4294967296 := vpt_lt hme hti hou hz
        exact pv233_val d n g0 l0 l1 l2 l3 l4 l5 l6 ks hs (by first | decide | omega) hq hme hti hou hz k1 hq2 (fun cl' t' g' e' k' m0 m1 m2 m3 m4 m5 m6 => pv233_l d n hmo hme hti hou kb hs L (i + 1) (vpt me ti ou z :: q) cl' t' c3 (by first | decide | omega) hvL hr (by show q.length + 1 ≤ 25; omega) g' (fun c j h9 => (e' c j (by first | decide | omega)).trans (e0 c j h9)) ⟨k', hvp, stk_keep hst (fun j hj => e' 234 j (by first | decide | omega))⟩ m0 m1 m2 m3 m4 m5 m6)
      · rw [if_neg hq2] at hr
        cases hr
    · rw [if_neg z0] at hr
      by_cases z1 : vk z = 1
      · rw [if_pos z1] at hr
        match q, hst, hr, hq, l5 with
        | [], hst, hr, hq, l5 => exact absurd hr (by rw [if_neg (by decide)]; exact fun z => by cases z)
        | x :: r, hst, hr, hq, l5 =>
          have hr : hrun 25 L (r.length + 1) = some 1 := by rw [← hr]; exact (if_pos (Nat.succ_le_succ (Nat.zero_le _))).symm
          have hvs : vs me ti ou z (x :: r) = vnot x :: r := by unfold vs; rw [if_neg z0, if_pos z1]
          rw [hvs]
          rw [vk_1 z1] at k1
          have hq' : r.length + 1 ≤ 25 := hq
          have l5' : en_ld cl 5 = some (.inl (r.length + 1)) := l5
          have kx : ai_hv t0 234 (r.length + 1 - 1) = some (.inl x) := hst.1
          exact pv233_not d n g0 l0 l1 l2 l3 l4 l5' l6 ks hs (by first | decide | omega) hq' hme hti hou k1 (by first | decide | omega) kx hst.2.1 (fun cl' t' g' e' k' m0 m1 m2 m3 m4 m5 m6 => pv233_l d n hmo hme hti hou kb hs L (i + 1) (vnot x :: r) cl' t' c3 (by first | decide | omega) hvL hr hq' g' (fun c j h9 => (e' c j (by first | decide | omega)).trans (e0 c j h9)) ⟨k', vnot_lt, stk_keep hst.2.2 (fun j hj => e' 234 j (by first | decide | omega))⟩ m0 m1 m2 m3 m4 m5 m6)
      · rw [if_neg z1] at hr
        match q, hst, hr, hq, l5 with
        | [], hst, hr, hq, l5 => exact absurd hr (by rw [if_neg (by decide)]; exact fun z => by cases z)
        | [x], hst, hr, hq, l5 => exact absurd hr (by rw [if_neg (show ¬ 2 ≤ [x].length from (by show ¬ 2 ≤ 1; decide))]; exact fun z => by cases z)
        | y :: x :: r, hst, hr, hq, l5 =>
          have hr : hrun 25 L (r.length + 1) = some 1 := by rw [← hr]; exact (if_pos (Nat.succ_le_succ (Nat.succ_le_succ (Nat.zero_le _)))).symm
          have hvs : vs me ti ou z (y :: x :: r) = vb (opm z) x y :: r := by unfold vs; rw [if_neg z0, if_neg z1]
          rw [hvs]
          have hzz := vo_cd z0 z1
          have hq' : r.length + 1 + 1 ≤ 25 := hq
          have l5' : en_ld cl 5 = some (.inl (r.length + 1 + 1)) := l5
          have ky : ai_hv t0 234 (r.length + 1 + 1 - 1) = some (.inl y) := hst.1
          have kx : ai_hv t0 234 (r.length + 1 + 1 - 1 - 1) = some (.inl x) := hst.2.2.1
          exact pv233_bin d n g0 l0 l1 l2 l3 l4 l5' l6 ks hs (by first | decide | omega) hq' hme hti hou (by first | decide | omega) k1 (by first | decide | omega) ky hst.2.1 kx hst.2.2.2.1 (fun cl' t' g' e' k' m0 m1 m2 m3 m4 m5 m6 => pv233_l d n hmo hme hti hou kb hs L (i + 1) (vb (opm z) x y :: r) cl' t' c3 (by first | decide | omega) hvL hr (by show r.length + 1 ≤ 25; omega) g' (fun c j h9 => (e' c j (by first | decide | omega)).trans (e0 c j h9)) ⟨k', vb_lt, stk_keep hst.2.2.2.2 (fun j hj => e' 234 j (by first | decide | omega))⟩ m0 m1 m2 m3 m4 m5 m6)
theorem pc_value233 (d n : Nat) {t0 : en_H} {mo me ti ou : Nat} {L : List Nat} (g0 : ai_HG ah_G t0) (hmo : mo < 2147483648) (hme : me < 4294967296) (hti : ti < 4294967296) (hou : ou < 4294967296) (kb : ai_hv t0 233 2 = some (.inl L.length)) (hs : L.length ≤ 1000) (hc : cco t0 233 0 L) (hv : ∀ z, z ∈ L → ∃ fh, vo fh z) (hr : hrun 25 L 0 = some 1) : ∃ r, en_u (d + 2) 210 [gx_r 233, .inl mo, .inl me, .inl ti, .inl ou] t0 n = some r ∧ ∃ v t', r = (some (.inl (vcl mo v)), t', n, 0) ∧ vrun me ti ou L [] = [v] ∧ v < 4294967296 ∧ ai_HG ah_G t' ∧ (∀ c i, c ≠ 234 → ai_hv t' c i = ai_hv t0 c i) := by
  refine en_u_ex (d := d + 1) rfl ?_
  show en_ex _ _ _ _ (0, [(0, gx_r 233), (1, .inl mo), (2, .inl me), (3, .inl ti), (4, .inl ou)], [], t0, n, 0) _
  refine ex_go (S := (1, [(0, gx_r 233), (1, .inl mo), (2, .inl me), (3, .inl ti), (4, .inl ou)], [.inl 0], t0, n, 0)) rfl (fun _ => rfl) rfl ?_
  refine ex_go (S := (3, [(5, .inl 0), (0, gx_r 233), (1, .inl mo), (2, .inl me), (3, .inl ti), (4, .inl ou)], [], t0, n, 0)) rfl (fun _ => rfl) rfl ?_
  refine ex_go (S := (4, [(5, .inl 0), (0, gx_r 233), (1, .inl mo), (2, .inl me), (3, .inl ti), (4, .inl ou)], [.inl 0], t0, n, 0)) rfl (fun _ => rfl) rfl ?_
  refine ex_go (S := (6, [(6, .inl 0), (5, .inl 0), (0, gx_r 233), (1, .inl mo), (2, .inl me), (3, .inl ti), (4, .inl ou)], [], t0, n, 0)) rfl (fun _ => rfl) rfl ?_
  exact ex_imp (fun o9 h9 => by
    obtain ⟨v, t1, h8, h7⟩ := h9
    exact ⟨_, h8, v, t1, rfl, h7⟩) (pv233_l d n hmo hme hti hou kb hs L 0 [] _ t0 hc (Nat.zero_add _) hv hr (by decide) g0 (fun c i h => rfl) trivial rfl rfl rfl rfl rfl rfl rfl)
theorem pv236_val (d n : Nat) {t0 : en_H} {cl : en_L} {mo me ti ou h i s z : Nat} {Q : en_O → Prop} (g0 : ai_HG ah_G t0) (h0 : en_ld cl 0 = some (gx_r 236)) (hm : en_ld cl 1 = some (.inl mo)) (ha : en_ld cl 2 = some (.inl me)) (hb : en_ld cl 3 = some (.inl ti)) (ho4 : en_ld cl 4 = some (.inl ou)) (h5 : en_ld cl 5 = some (.inl h)) (h6 : en_ld cl 6 = some (.inl i)) (ks : ai_hv t0 236 2 = some (.inl s)) (hs : s ≤ 1000) (hi : i < s) (hh : h ≤ 25) (hme : me < 4294967296) (hti : ti < 4294967296) (hou : ou < 4294967296) (hz : z < 2147483648 ∨ z = 4294967286 ∨ z = 4294967287 ∨ z = 4294967285) (kz : ai_hv t0 238 i = some (.inl z)) (hh2 : h < 25) (hQ : ∀ cl' t', ai_HG ah_G t' → (∀ c j, ¬ (c = 237 ∧ j = h) → ai_hv t' c j = ai_hv t0 c j) → ai_hv t' 237 (h) = some (.inl (vpt me ti ou z)) → en_ld cl' 0 = some (gx_r 236) → en_ld cl' 1 = some (.inl mo) → en_ld cl' 2 = some (.inl me) → en_ld cl' 3 = some (.inl ti) → en_ld cl' 4 = some (.inl ou) → en_ld cl' 5 = some (.inl (h + 1)) → en_ld cl' 6 = some (.inl (i + 1)) → en_ex none (en_u (d + 1)) (en_code 210) (fun _ => false) (6, cl', [], t', n, 0) Q) : en_ex none (en_u (d + 1)) (en_code 210) (fun _ => false) (6, cl, [], t0, n, 0) Q := by
  rcases hz with hz | rfl | rfl | rfl
  · refine gx_ld (i := 6) (d := 0) (v := .inl i) rfl (fun _ => rfl) h6 rfl rfl ?_
    refine gx_ld (i := 0) (d := 2) (v := gx_r 236) rfl (fun _ => rfl) h0 rfl rfl ?_
    refine gxo_get (a := 236) rfl g0 rfl rfl ks rfl ?_
    refine gx_2f (c := .ge) rfl (by first | decide | omega) (by first | decide | omega) (show ¬ (s ≤ i) from by omega) rfl ?_
    refine gx_ld (i := 0) (d := 2) (v := gx_r 236) rfl (fun _ => rfl) h0 rfl rfl ?_
    refine gxo_ref (a := 236) (c := 238) rfl g0 rfl rfl rfl rfl rfl ?_
    refine gx_ld (i := 6) (d := 0) (v := .inl i) rfl (fun _ => rfl) h6 rfl rfl ?_
    refine gx_ag (v := .inl z) (cb := fun c => Nat.beq c 0) rfl (fun _ => rfl) g0 rfl rfl kz (by first | decide | omega) rfl ?_
    refine gx_sto (i := 7) (d := 0) rfl (fun _ => rfl) rfl rfl (fun l1 hl1 ml1 => ?_)
    have l1_0 : en_ld l1 0 = some (gx_r 236) := ml1 0 _ h0 rfl
    have l1_1 : en_ld l1 1 = some (.inl mo) := ml1 1 _ hm rfl
    have l1_2 : en_ld l1 2 = some (.inl me) := ml1 2 _ ha rfl
    have l1_3 : en_ld l1 3 = some (.inl ti) := ml1 3 _ hb rfl
    have l1_4 : en_ld l1 4 = some (.inl ou) := ml1 4 _ ho4 rfl
    have l1_5 : en_ld l1 5 = some (.inl h) := ml1 5 _ h5 rfl
    have l1_6 : en_ld l1 6 = some (.inl i) := ml1 6 _ h6 rfl
    refine gx_ld (i := 7) (d := 0) (v := .inl z) rfl (fun _ => rfl) hl1 rfl rfl ?_
    refine ex_go (S := (27, l1, [.inl 4294967295, .inl z], t0, n, 0)) rfl (fun _ => rfl) rfl ?_
    refine gx_2mt (c := .ne) rfl (by first | decide | omega) rfl rfl ?_
    refine gx_ld (i := 7) (d := 0) (v := .inl z) rfl (fun _ => rfl) hl1 rfl rfl ?_
    refine gx_1t (c := .ge) rfl (by first | decide | omega) (show 0 ≤ z from by omega) rfl ?_
    refine gx_ld (i := 5) (d := 0) (v := .inl h) rfl (fun _ => rfl) l1_5 rfl rfl ?_
    refine gx_ld (i := 0) (d := 2) (v := gx_r 236) rfl (fun _ => rfl) l1_0 rfl rfl ?_
    refine gxo_ref (a := 236) (c := 237) rfl g0 rfl rfl rfl rfl rfl ?_
    refine gx_alen (a := 237) (m := 25) rfl g0 rfl rfl rfl ?_
    refine gx_2f (c := .ge) rfl (by first | decide | omega) (by first | decide | omega) (show ¬ (25 ≤ h) from by omega) rfl ?_
    refine gx_ld (i := 0) (d := 2) (v := gx_r 236) rfl (fun _ => rfl) l1_0 rfl rfl ?_
    refine gxo_ref (a := 236) (c := 237) rfl g0 rfl rfl rfl rfl rfl ?_
    refine gx_ld (i := 5) (d := 0) (v := .inl h) rfl (fun _ => rfl) l1_5 rfl rfl ?_
    refine gx_ld (i := 7) (d := 0) (v := .inl z) rfl (fun _ => rfl) hl1 rfl rfl ?_
    refine gx_ld (i := 2) (d := 0) (v := .inl me) rfl (fun _ => rfl) l1_2 rfl rfl ?_
    refine gx_ld (i := 3) (d := 0) (v := .inl ti) rfl (fun _ => rfl) l1_3 rfl rfl ?_
    refine gx_ld (i := 4) (d := 0) (v := .inl ou) rfl (fun _ => rfl) l1_4 rfl rfl ?_
    have hvp : vpt me ti ou z < 4294967296 := vpt_lt hme hti hou (by first | decide | omega)
    refine ex_stat rfl rfl rfl rfl rfl (pc_part d n (t0 := t0) (z := z) (me := me) (ti := ti) (ou := ou) (by first | decide | omega)) (Nat.le_refl _) rfl ?_
    show en_ex _ _ _ _ (143, l1, [.inl (vpt me ti ou z), .inl h, gx_r 237], t0, n, 0) _
    refine gx_ap rfl (fun _ => rfl) g0 rfl rfl rfl (show h < 25 from by omega) (gx_run1 (show h < 25 from by omega)) (gx_full (by first | decide | omega)) rfl (fun t102 g102 k102 e102 => ?_)
    have k3 : ai_hv t102 236 2 = some (.inl s) := (e102 236 2 (by first | decide | omega)).trans ks
    have k4 : ai_hv t102 238 i = some (.inl z) := (e102 238 i (by first | decide | omega)).trans kz
    refine gx_incS (i := 5) (a := h) (x := 1) rfl (fun _ => rfl) l1_5 (by first | decide | omega) rfl (fun l5 hl5 ml5 => ?_)
    have l5_0 : en_ld l5 0 = some (gx_r 236) := ml5 0 _ l1_0 rfl
    have l5_1 : en_ld l5 1 = some (.inl mo) := ml5 1 _ l1_1 rfl
    have l5_2 : en_ld l5 2 = some (.inl me) := ml5 2 _ l1_2 rfl
    have l5_3 : en_ld l5 3 = some (.inl ti) := ml5 3 _ l1_3 rfl
    have l5_4 : en_ld l5 4 = some (.inl ou) := ml5 4 _ l1_4 rfl
    have l5_6 : en_ld l5 6 = some (.inl i) := ml5 6 _ l1_6 rfl
    have l5_7 : en_ld l5 7 = some (.inl z) := ml5 7 _ hl1 rfl
    refine gx_incS (i := 6) (a := i) (x := 1) rfl (fun _ => rfl) l5_6 (by first | decide | omega) rfl (fun l6 hl6 ml6 => ?_)
    have l6_0 : en_ld l6 0 = some (gx_r 236) := ml6 0 _ l5_0 rfl
    have l6_1 : en_ld l6 1 = some (.inl mo) := ml6 1 _ l5_1 rfl
    have l6_2 : en_ld l6 2 = some (.inl me) := ml6 2 _ l5_2 rfl
    have l6_3 : en_ld l6 3 = some (.inl ti) := ml6 3 _ l5_3 rfl
    have l6_4 : en_ld l6 4 = some (.inl ou) := ml6 4 _ l5_4 rfl
    have l6_7 : en_ld l6 7 = some (.inl z) := ml6 7 _ l5_7 rfl
    have l6_5 : en_ld l6 5 = some (.inl (h + 1)) := ml6 5 _ hl5 rfl
    refine ex_go (S := (6, l6, [], t102, n, 0)) rfl (fun _ => rfl) rfl ?_
    exact hQ _ t102 g102 (fun c j h9 => e102 c j (by first | decide | omega)) k102 l6_0 l6_1 l6_2 l6_3 l6_4 l6_5 hl6
  · refine gx_ld (i := 6) (d := 0) (v := .inl i) rfl (fun _ => rfl) h6 rfl rfl ?_
    refine gx_ld (i := 0) (d := 2) (v := gx_r 236) rfl (fun _ => rfl) h0 rfl rfl ?_
    refine gxo_get (a := 236) rfl g0 rfl rfl ks rfl ?_
    refine gx_2f (c := .ge) rfl (by first | decide | omega) (by first | decide | omega) (show ¬ (s ≤ i) from by omega) rfl ?_
    refine gx_ld (i := 0) (d := 2) (v := gx_r 236) rfl (fun _ => rfl) h0 rfl rfl ?_
    refine gxo_ref (a := 236) (c := 238) rfl g0 rfl rfl rfl rfl rfl ?_
    refine gx_ld (i := 6) (d := 0) (v := .inl i) rfl (fun _ => rfl) h6 rfl rfl ?_
    refine gx_ag (v := .inl 4294967286) (cb := fun c => Nat.beq c 0) rfl (fun _ => rfl) g0 rfl rfl kz (by first | decide | omega) rfl ?_
    refine gx_sto (i := 7) (d := 0) rfl (fun _ => rfl) rfl rfl (fun l1 hl1 ml1 => ?_)
    have l1_0 : en_ld l1 0 = some (gx_r 236) := ml1 0 _ h0 rfl
    have l1_1 : en_ld l1 1 = some (.inl mo) := ml1 1 _ hm rfl
    have l1_2 : en_ld l1 2 = some (.inl me) := ml1 2 _ ha rfl
    have l1_3 : en_ld l1 3 = some (.inl ti) := ml1 3 _ hb rfl
    have l1_4 : en_ld l1 4 = some (.inl ou) := ml1 4 _ ho4 rfl
    have l1_5 : en_ld l1 5 = some (.inl h) := ml1 5 _ h5 rfl
    have l1_6 : en_ld l1 6 = some (.inl i) := ml1 6 _ h6 rfl
    refine gx_ld (i := 7) (d := 0) (v := .inl 4294967286) rfl (fun _ => rfl) hl1 rfl rfl ?_
    refine ex_go (S := (27, l1, [.inl 4294967295, .inl 4294967286], t0, n, 0)) rfl (fun _ => rfl) rfl ?_
    refine ex_go (S := (64, l1, [], t0, n, 0)) rfl (fun _ => rfl) rfl ?_
    refine gx_ld (i := 7) (d := 0) (v := .inl 4294967286) rfl (fun _ => rfl) hl1 rfl rfl ?_
    refine ex_go (S := (69, l1, [], t0, n, 0)) rfl (fun _ => rfl) rfl ?_
    refine gx_ld (i := 7) (d := 0) (v := .inl 4294967286) rfl (fun _ => rfl) hl1 rfl rfl ?_
    refine ex_go (S := (73, l1, [.inl 4294967288, .inl 4294967286], t0, n, 0)) rfl (fun _ => rfl) rfl ?_
    refine ex_go (S := (118, l1, [], t0, n, 0)) rfl (fun _ => rfl) rfl ?_
    refine gx_ld (i := 5) (d := 0) (v := .inl h) rfl (fun _ => rfl) l1_5 rfl rfl ?_
    refine gx_ld (i := 0) (d := 2) (v := gx_r 236) rfl (fun _ => rfl) l1_0 rfl rfl ?_
    refine gxo_ref (a := 236) (c := 237) rfl g0 rfl rfl rfl rfl rfl ?_
    refine gx_alen (a := 237) (m := 25) rfl g0 rfl rfl rfl ?_
    refine gx_2f (c := .ge) rfl (by first | decide | omega) (by first | decide | omega) (show ¬ (25 ≤ h) from by omega) rfl ?_
    refine gx_ld (i := 0) (d := 2) (v := gx_r 236) rfl (fun _ => rfl) l1_0 rfl rfl ?_
    refine gxo_ref (a := 236) (c := 237) rfl g0 rfl rfl rfl rfl rfl ?_
    refine gx_ld (i := 5) (d := 0) (v := .inl h) rfl (fun _ => rfl) l1_5 rfl rfl ?_
    refine gx_ld (i := 7) (d := 0) (v := .inl 4294967286) rfl (fun _ => rfl) hl1 rfl rfl ?_
    refine gx_ld (i := 2) (d := 0) (v := .inl me) rfl (fun _ => rfl) l1_2 rfl rfl ?_
    refine gx_ld (i := 3) (d := 0) (v := .inl ti) rfl (fun _ => rfl) l1_3 rfl rfl ?_
    refine gx_ld (i := 4) (d := 0) (v := .inl ou) rfl (fun _ => rfl) l1_4 rfl rfl ?_
    have hvp : vpt me ti ou 4294967286 < 4294967296 := vpt_lt hme hti hou (by first | decide | omega)
    refine ex_stat rfl rfl rfl rfl rfl (pc_part d n (t0 := t0) (z := 4294967286) (me := me) (ti := ti) (ou := ou) (by first | decide | omega)) (Nat.le_refl _) rfl ?_
    show en_ex _ _ _ _ (143, l1, [.inl (vpt me ti ou 4294967286), .inl h, gx_r 237], t0, n, 0) _
    refine gx_ap rfl (fun _ => rfl) g0 rfl rfl rfl (show h < 25 from by omega) (gx_run1 (show h < 25 from by omega)) (gx_full (by first | decide | omega)) rfl (fun t102 g102 k102 e102 => ?_)
    have k3 : ai_hv t102 236 2 = some (.inl s) := (e102 236 2 (by first | decide | omega)).trans ks
    have k4 : ai_hv t102 238 i = some (.inl 4294967286) := (e102 238 i (by first | decide | omega)).trans kz
    refine gx_incS (i := 5) (a := h) (x := 1) rfl (fun _ => rfl) l1_5 (by first | decide | omega) rfl (fun l5 hl5 ml5 => ?_)
    have l5_0 : en_ld l5 0 = some (gx_r 236) := ml5 0 _ l1_0 rfl
    have l5_1 : en_ld l5 1 = some (.inl mo) := ml5 1 _ l1_1 rfl
    have l5_2 : en_ld l5 2 = some (.inl me) := ml5 2 _ l1_2 rfl
    have l5_3 : en_ld l5 3 = some (.inl ti) := ml5 3 _ l1_3 rfl
    have l5_4 : en_ld l5 4 = some (.inl ou) := ml5 4 _ l1_4 rfl
    have l5_6 : en_ld l5 6 = some (.inl i) := ml5 6 _ l1_6 rfl
    have l5_7 : en_ld l5 7 = some (.inl 4294967286) := ml5 7 _ hl1 rfl
    refine gx_incS (i := 6) (a := i) (x := 1) rfl (fun _ => rfl) l5_6 (by first | decide | omega) rfl (fun l6 hl6 ml6 => ?_)
    have l6_0 : en_ld l6 0 = some (gx_r 236) := ml6 0 _ l5_0 rfl
    have l6_1 : en_ld l6 1 = some (.inl mo) := ml6 1 _ l5_1 rfl
    have l6_2 : en_ld l6 2 = some (.inl me) := ml6 2 _ l5_2 rfl
    have l6_3 : en_ld l6 3 = some (.inl ti) := ml6 3 _ l5_3 rfl
    have l6_4 : en_ld l6 4 = some (.inl ou) := ml6 4 _ l5_4 rfl
    have l6_7 : en_ld l6 7 = some (.inl 4294967286) := ml6 7 _ l5_7 rfl
    have l6_5 : en_ld l6 5 = some (.inl (h + 1)) := ml6 5 _ hl5 rfl
    refine ex_go (S := (6, l6, [], t102, n, 0)) rfl (fun _ => rfl) rfl ?_
    exact hQ _ t102 g102 (fun c j h9 => e102 c j (by first | decide | omega)) k102 l6_0 l6_1 l6_2 l6_3 l6_4 l6_5 hl6
  · refine gx_ld (i := 6) (d := 0) (v := .inl i) rfl (fun _ => rfl) h6 rfl rfl ?_
    refine gx_ld (i := 0) (d := 2) (v := gx_r 236) rfl (fun _ => rfl) h0 rfl rfl ?_
    refine gxo_get (a := 236) rfl g0 rfl rfl ks rfl ?_
    refine gx_2f (c := .ge) rfl (by first | decide | omega) (by first | decide | omega) (show ¬ (s ≤ i) from by omega) rfl ?_
    refine gx_ld (i := 0) (d := 2) (v := gx_r 236) rfl (fun _ => rfl) h0 rfl rfl ?_
    refine gxo_ref (a := 236) (c := 238) rfl g0 rfl rfl rfl rfl rfl ?_
    refine gx_ld (i := 6) (d := 0) (v := .inl i) rfl (fun _ => rfl) h6 rfl rfl ?_
    refine gx_ag (v := .inl 4294967287) (cb := fun c => Nat.beq c 0) rfl (fun _ => rfl) g0 rfl rfl kz (by first | decide | omega) rfl ?_
    refine gx_sto (i := 7) (d := 0) rfl (fun _ => rfl) rfl rfl (fun l1 hl1 ml1 => ?_)
    have l1_0 : en_ld l1 0 = some (gx_r 236) := ml1 0 _ h0 rfl
    have l1_1 : en_ld l1 1 = some (.inl mo) := ml1 1 _ hm rfl
    have l1_2 : en_ld l1 2 = some (.inl me) := ml1 2 _ ha rfl
    have l1_3 : en_ld l1 3 = some (.inl ti) := ml1 3 _ hb rfl
    have l1_4 : en_ld l1 4 = some (.inl ou) := ml1 4 _ ho4 rfl
    have l1_5 : en_ld l1 5 = some (.inl h) := ml1 5 _ h5 rfl
    have l1_6 : en_ld l1 6 = some (.inl i) := ml1 6 _ h6 rfl
    refine gx_ld (i := 7) (d := 0) (v := .inl 4294967287) rfl (fun _ => rfl) hl1 rfl rfl ?_
    refine ex_go (S := (27, l1, [.inl 4294967295, .inl 4294967287], t0, n, 0)) rfl (fun _ => rfl) rfl ?_
    refine ex_go (S := (64, l1, [], t0, n, 0)) rfl (fun _ => rfl) rfl ?_
    refine gx_ld (i := 7) (d := 0) (v := .inl 4294967287) rfl (fun _ => rfl) hl1 rfl rfl ?_
    refine ex_go (S := (69, l1, [], t0, n, 0)) rfl (fun _ => rfl) rfl ?_
    refine gx_ld (i := 7) (d := 0) (v := .inl 4294967287) rfl (fun _ => rfl) hl1 rfl rfl ?_
    refine ex_go (S := (73, l1, [.inl 4294967288, .inl 4294967287], t0, n, 0)) rfl (fun _ => rfl) rfl ?_
    refine ex_go (S := (118, l1, [], t0, n, 0)) rfl (fun _ => rfl) rfl ?_
    refine gx_ld (i := 5) (d := 0) (v := .inl h) rfl (fun _ => rfl) l1_5 rfl rfl ?_
    refine gx_ld (i := 0) (d := 2) (v := gx_r 236) rfl (fun _ => rfl) l1_0 rfl rfl ?_
    refine gxo_ref (a := 236) (c := 237) rfl g0 rfl rfl rfl rfl rfl ?_
    refine gx_alen (a := 237) (m := 25) rfl g0 rfl rfl rfl ?_
    refine gx_2f (c := .ge) rfl (by first | decide | omega) (by first | decide | omega) (show ¬ (25 ≤ h) from by omega) rfl ?_
    refine gx_ld (i := 0) (d := 2) (v := gx_r 236) rfl (fun _ => rfl) l1_0 rfl rfl ?_
    refine gxo_ref (a := 236) (c := 237) rfl g0 rfl rfl rfl rfl rfl ?_
    refine gx_ld (i := 5) (d := 0) (v := .inl h) rfl (fun _ => rfl) l1_5 rfl rfl ?_
    refine gx_ld (i := 7) (d := 0) (v := .inl 4294967287) rfl (fun _ => rfl) hl1 rfl rfl ?_
    refine gx_ld (i := 2) (d := 0) (v := .inl me) rfl (fun _ => rfl) l1_2 rfl rfl ?_
    refine gx_ld (i := 3) (d := 0) (v := .inl ti) rfl (fun _ => rfl) l1_3 rfl rfl ?_
    refine gx_ld (i := 4) (d := 0) (v := .inl ou) rfl (fun _ => rfl) l1_4 rfl rfl ?_
    have hvp : vpt me ti ou 4294967287 < 4294967296 := vpt_lt hme hti hou (by first | decide | omega)
    refine ex_stat rfl rfl rfl rfl rfl (pc_part d n (t0 := t0) (z := 4294967287) (me := me) (ti := ti) (ou := ou) (by first | decide | omega)) (Nat.le_refl _) rfl ?_
    show en_ex _ _ _ _ (143, l1, [.inl (vpt me ti ou 4294967287), .inl h, gx_r 237], t0, n, 0) _
    refine gx_ap rfl (fun _ => rfl) g0 rfl rfl rfl (show h < 25 from by omega) (gx_run1 (show h < 25 from by omega)) (gx_full (by first | decide | omega)) rfl (fun t102 g102 k102 e102 => ?_)
    have k3 : ai_hv t102 236 2 = some (.inl s) := (e102 236 2 (by first | decide | omega)).trans ks
    have k4 : ai_hv t102 238 i = some (.inl 4294967287) := (e102 238 i (by first | decide | omega)).trans kz
    refine gx_incS (i := 5) (a := h) (x := 1) rfl (fun _ => rfl) l1_5 (by first | decide | omega) rfl (fun l5 hl5 ml5 => ?_)
    have l5_0 : en_ld l5 0 = some (gx_r 236) := ml5 0 _ l1_0 rfl
    have l5_1 : en_ld l5 1 = some (.inl mo) := ml5 1 _ l1_1 rfl
    have l5_2 : en_ld l5 2 = some (.inl me) := ml5 2 _ l1_2 rfl
    have l5_3 : en_ld l5 3 = some (.inl ti) := ml5 3 _ l1_3 rfl
    have l5_4 : en_ld l5 4 = some (.inl ou) := ml5 4 _ l1_4 rfl
    have l5_6 : en_ld l5 6 = some (.inl i) := ml5 6 _ l1_6 rfl
    have l5_7 : en_ld l5 7 = some (.inl 4294967287) := ml5 7 _ hl1 rfl
    refine gx_incS (i := 6) (a := i) (x := 1) rfl (fun _ => rfl) l5_6 (by first | decide | omega) rfl (fun l6 hl6 ml6 => ?_)
    have l6_0 : en_ld l6 0 = some (gx_r 236) := ml6 0 _ l5_0 rfl
    have l6_1 : en_ld l6 1 = some (.inl mo) := ml6 1 _ l5_1 rfl
    have l6_2 : en_ld l6 2 = some (.inl me) := ml6 2 _ l5_2 rfl
    have l6_3 : en_ld l6 3 = some (.inl ti) := ml6 3 _ l5_3 rfl
    have l6_4 : en_ld l6 4 = some (.inl ou) := ml6 4 _ l5_4 rfl
    have l6_7 : en_ld l6 7 = some (.inl 4294967287) := ml6 7 _ l5_7 rfl
    have l6_5 : en_ld l6 5 = some (.inl (h + 1)) := ml6 5 _ hl5 rfl
    refine ex_go (S := (6, l6, [], t102, n, 0)) rfl (fun _ => rfl) rfl ?_
    exact hQ _ t102 g102 (fun c j h9 => e102 c j (by first | decide | omega)) k102 l6_0 l6_1 l6_2 l6_3 l6_4 l6_5 hl6
  · refine gx_ld (i := 6) (d := 0) (v := .inl i) rfl (fun _ => rfl) h6 rfl rfl ?_
    refine gx_ld (i := 0) (d := 2) (v := gx_r 236) rfl (fun _ => rfl) h0 rfl rfl ?_
    refine gxo_get (a := 236) rfl g0 rfl rfl ks rfl ?_
    refine gx_2f (c := .ge) rfl (by first | decide | omega) (by first | decide | omega) (show ¬ (s ≤ i) from by omega) rfl ?_
    refine gx_ld (i := 0) (d := 2) (v := gx_r 236) rfl (fun _ => rfl) h0 rfl rfl ?_
    refine gxo_ref (a := 236) (c := 238) rfl g0 rfl rfl rfl rfl rfl ?_
    refine gx_ld (i := 6) (d := 0) (v := .inl i) rfl (fun _ => rfl) h6 rfl rfl ?_
    refine gx_ag (v := .inl 4294967285) (cb := fun c => Nat.beq c 0) rfl (fun _ => rfl) g0 rfl rfl kz (by first | decide | omega) rfl ?_
    refine gx_sto (i := 7) (d := 0) rfl (fun _ => rfl) rfl rfl (fun l1 hl1 ml1 => ?_)
    have l1_0 : en_ld l1 0 = some (gx_r 236) := ml1 0 _ h0 rfl
    have l1_1 : en_ld l1 1 = some (.inl mo) := ml1 1 _ hm rfl
    have l1_2 : en_ld l1 2 = some (.inl me) := ml1 2 _ ha rfl
    have l1_3 : en_ld l1 3 = some (.inl ti) := ml1 3 _ hb rfl
    have l1_4 : en_ld l1 4 = some (.inl ou) := ml1 4 _ ho4 rfl
    have l1_5 : en_ld l1 5 = some (.inl h) := ml1 5 _ h5 rfl
    have l1_6 : en_ld l1 6 = some (.inl i) := ml1 6 _ h6 rfl
    refine gx_ld (i := 7) (d := 0) (v := .inl 4294967285) rfl (fun _ => rfl) hl1 rfl rfl ?_
    refine ex_go (S := (27, l1, [.inl 4294967295, .inl 4294967285], t0, n, 0)) rfl (fun _ => rfl) rfl ?_
    refine ex_go (S := (64, l1, [], t0, n, 0)) rfl (fun _ => rfl) rfl ?_
    refine gx_ld (i := 7) (d := 0) (v := .inl 4294967285) rfl (fun _ => rfl) hl1 rfl rfl ?_
    refine ex_go (S := (69, l1, [], t0, n, 0)) rfl (fun _ => rfl) rfl ?_
    refine gx_ld (i := 7) (d := 0) (v := .inl 4294967285) rfl (fun _ => rfl) hl1 rfl rfl ?_
    refine ex_go (S := (73, l1, [.inl 4294967288, .inl 4294967285], t0, n, 0)) rfl (fun _ => rfl) rfl ?_
    refine ex_go (S := (118, l1, [], t0, n, 0)) rfl (fun _ => rfl) rfl ?_
    refine gx_ld (i := 5) (d := 0) (v := .inl h) rfl (fun _ => rfl) l1_5 rfl rfl ?_
    refine gx_ld (i := 0) (d := 2) (v := gx_r 236) rfl (fun _ => rfl) l1_0 rfl rfl ?_
    refine gxo_ref (a := 236) (c := 237) rfl g0 rfl rfl rfl rfl rfl ?_
    refine gx_alen (a := 237) (m := 25) rfl g0 rfl rfl rfl ?_
    refine gx_2f (c := .ge) rfl (by first | decide | omega) (by first | decide | omega) (show ¬ (25 ≤ h) from by omega) rfl ?_
    refine gx_ld (i := 0) (d := 2) (v := gx_r 236) rfl (fun _ => rfl) l1_0 rfl rfl ?_
    refine gxo_ref (a := 236) (c := 237) rfl g0 rfl rfl rfl rfl rfl ?_
    refine gx_ld (i := 5) (d := 0) (v := .inl h) rfl (fun _ => rfl) l1_5 rfl rfl ?_
    refine gx_ld (i := 7) (d := 0) (v := .inl 4294967285) rfl (fun _ => rfl) hl1 rfl rfl ?_
    refine gx_ld (i := 2) (d := 0) (v := .inl me) rfl (fun _ => rfl) l1_2 rfl rfl ?_
    refine gx_ld (i := 3) (d := 0) (v := .inl ti) rfl (fun _ => rfl) l1_3 rfl rfl ?_
    refine gx_ld (i := 4) (d := 0) (v := .inl ou) rfl (fun _ => rfl) l1_4 rfl rfl ?_
    have hvp : vpt me ti ou 4294967285 < 4294967296 := vpt_lt hme hti hou (by first | decide | omega)
    refine ex_stat rfl rfl rfl rfl rfl (pc_part d n (t0 := t0) (z := 4294967285) (me := me) (ti := ti) (ou := ou) (by first | decide | omega)) (Nat.le_refl _) rfl ?_
    show en_ex _ _ _ _ (143, l1, [.inl (vpt me ti ou 4294967285), .inl h, gx_r 237], t0, n, 0) _
    refine gx_ap rfl (fun _ => rfl) g0 rfl rfl rfl (show h < 25 from by omega) (gx_run1 (show h < 25 from by omega)) (gx_full (by first | decide | omega)) rfl (fun t102 g102 k102 e102 => ?_)
    have k3 : ai_hv t102 236 2 = some (.inl s) := (e102 236 2 (by first | decide | omega)).trans ks
    have k4 : ai_hv t102 238 i = some (.inl 4294967285) := (e102 238 i (by first | decide | omega)).trans kz
    refine gx_incS (i := 5) (a := h) (x := 1) rfl (fun _ => rfl) l1_5 (by first | decide | omega) rfl (fun l5 hl5 ml5 => ?_)
    have l5_0 : en_ld l5 0 = some (gx_r 236) := ml5 0 _ l1_0 rfl
    have l5_1 : en_ld l5 1 = some (.inl mo) := ml5 1 _ l1_1 rfl
    have l5_2 : en_ld l5 2 = some (.inl me) := ml5 2 _ l1_2 rfl
    have l5_3 : en_ld l5 3 = some (.inl ti) := ml5 3 _ l1_3 rfl
    have l5_4 : en_ld l5 4 = some (.inl ou) := ml5 4 _ l1_4 rfl
    have l5_6 : en_ld l5 6 = some (.inl i) := ml5 6 _ l1_6 rfl
    have l5_7 : en_ld l5 7 = some (.inl 4294967285) := ml5 7 _ hl1 rfl
    refine gx_incS (i := 6) (a := i) (x := 1) rfl (fun _ => rfl) l5_6 (by first | decide | omega) rfl (fun l6 hl6 ml6 => ?_)
    have l6_0 : en_ld l6 0 = some (gx_r 236) := ml6 0 _ l5_0 rfl
    have l6_1 : en_ld l6 1 = some (.inl mo) := ml6 1 _ l5_1 rfl
    have l6_2 : en_ld l6 2 = some (.inl me) := ml6 2 _ l5_2 rfl
    have l6_3 : en_ld l6 3 = some (.inl ti) := ml6 3 _ l5_3 rfl
    have l6_4 : en_ld l6 4 = some (.inl ou) := ml6 4 _ l5_4 rfl
    have l6_7 : en_ld l6 7 = some (.inl 4294967285) := ml6 7 _ l5_7 rfl
    have l6_5 : en_ld l6 5 = some (.inl (h + 1)) := ml6 5 _ hl5 rfl
    refine ex_go (S := (6, l6, [], t102, n, 0)) rfl (fun _ => rfl) rfl ?_
    exact hQ _ t102 g102 (fun c j h9 => e102 c j (by first | decide | omega)) k102 l6_0 l6_1 l6_2 l6_3 l6_4 l6_5 hl6
theorem pv236_not (d n : Nat) {t0 : en_H} {cl : en_L} {mo me ti ou h i s x : Nat} {Q : en_O → Prop} (g0 : ai_HG ah_G t0) (h0 : en_ld cl 0 = some (gx_r 236)) (hm : en_ld cl 1 = some (.inl mo)) (ha : en_ld cl 2 = some (.inl me)) (hb : en_ld cl 3 = some (.inl ti)) (ho4 : en_ld cl 4 = some (.inl ou)) (h5 : en_ld cl 5 = some (.inl h)) (h6 : en_ld cl 6 = some (.inl i)) (ks : ai_hv t0 236 2 = some (.inl s)) (hs : s ≤ 1000) (hi : i < s) (hh : h ≤ 25) (hme : me < 4294967296) (hti : ti < 4294967296) (hou : ou < 4294967296) (kz : ai_hv t0 238 i = some (.inl 4294967295)) (h1 : 1 ≤ h) (kx : ai_hv t0 237 (h - 1) = some (.inl x)) (hx : x < 4294967296) (hQ : ∀ cl' t', ai_HG ah_G t' → (∀ c j, ¬ (c = 237 ∧ j = h - 1) → ai_hv t' c j = ai_hv t0 c j) → ai_hv t' 237 (h - 1) = some (.inl (vnot x)) → en_ld cl' 0 = some (gx_r 236) → en_ld cl' 1 = some (.inl mo) → en_ld cl' 2 = some (.inl me) → en_ld cl' 3 = some (.inl ti) → en_ld cl' 4 = some (.inl ou) → en_ld cl' 5 = some (.inl (h)) → en_ld cl' 6 = some (.inl (i + 1)) → en_ex none (en_u (d + 1)) (en_code 210) (fun _ => false) (6, cl', [], t', n, 0) Q) : en_ex none (en_u (d + 1)) (en_code 210) (fun _ => false) (6, cl, [], t0, n, 0) Q := by
  refine gx_ld (i := 6) (d := 0) (v := .inl i) rfl (fun _ => rfl) h6 rfl rfl ?_
  refine gx_ld (i := 0) (d := 2) (v := gx_r 236) rfl (fun _ => rfl) h0 rfl rfl ?_
  refine gxo_get (a := 236) rfl g0 rfl rfl ks rfl ?_
  refine gx_2f (c := .ge) rfl (by first | decide | omega) (by first | decide | omega) (show ¬ (s ≤ i) from by omega) rfl ?_
  refine gx_ld (i := 0) (d := 2) (v := gx_r 236) rfl (fun _ => rfl) h0 rfl rfl ?_
  refine gxo_ref (a := 236) (c := 238) rfl g0 rfl rfl rfl rfl rfl ?_
  refine gx_ld (i := 6) (d := 0) (v := .inl i) rfl (fun _ => rfl) h6 rfl rfl ?_
  refine gx_ag (v := .inl 4294967295) (cb := fun c => Nat.beq c 0) rfl (fun _ => rfl) g0 rfl rfl kz (by first | decide | omega) rfl ?_
  refine gx_sto (i := 7) (d := 0) rfl (fun _ => rfl) rfl rfl (fun l1 hl1 ml1 => ?_)
  have l1_0 : en_ld l1 0 = some (gx_r 236) := ml1 0 _ h0 rfl
  have l1_1 : en_ld l1 1 = some (.inl mo) := ml1 1 _ hm rfl
  have l1_2 : en_ld l1 2 = some (.inl me) := ml1 2 _ ha rfl
  have l1_3 : en_ld l1 3 = some (.inl ti) := ml1 3 _ hb rfl
  have l1_4 : en_ld l1 4 = some (.inl ou) := ml1 4 _ ho4 rfl
  have l1_5 : en_ld l1 5 = some (.inl h) := ml1 5 _ h5 rfl
  have l1_6 : en_ld l1 6 = some (.inl i) := ml1 6 _ h6 rfl
  refine gx_ld (i := 7) (d := 0) (v := .inl 4294967295) rfl (fun _ => rfl) hl1 rfl rfl ?_
  refine ex_go (S := (27, l1, [.inl 4294967295, .inl 4294967295], t0, n, 0)) rfl (fun _ => rfl) rfl ?_
  refine ex_go (S := (30, l1, [], t0, n, 0)) rfl (fun _ => rfl) rfl ?_
  refine gx_ld (i := 5) (d := 0) (v := .inl h) rfl (fun _ => rfl) l1_5 rfl rfl ?_
  refine gx_1f (c := .le) rfl (by first | decide | omega) (show ¬ (h ≤ 0) from by omega) rfl ?_
  refine gx_ld (i := 0) (d := 2) (v := gx_r 236) rfl (fun _ => rfl) l1_0 rfl rfl ?_
  refine gxo_ref (a := 236) (c := 237) rfl g0 rfl rfl rfl rfl rfl ?_
  refine gx_ld (i := 5) (d := 0) (v := .inl h) rfl (fun _ => rfl) l1_5 rfl rfl ?_
  refine ex_go (S := (42, l1, [.inl 1, .inl h, gx_r 237], t0, n, 0)) rfl (fun _ => rfl) rfl ?_
  refine gx_isub rfl (by first | decide | omega) (by first | decide | omega) rfl ?_
  refine gx_ld (i := 0) (d := 2) (v := gx_r 236) rfl (fun _ => rfl) l1_0 rfl rfl ?_
  refine gxo_ref (a := 236) (c := 237) rfl g0 rfl rfl rfl rfl rfl ?_
  refine gx_ld (i := 5) (d := 0) (v := .inl h) rfl (fun _ => rfl) l1_5 rfl rfl ?_
  refine ex_go (S := (50, l1, [.inl 1, .inl h, gx_r 237, .inl (h - 1), gx_r 237], t0, n, 0)) rfl (fun _ => rfl) rfl ?_
  refine gx_isub rfl (by first | decide | omega) (by first | decide | omega) rfl ?_
  refine gx_ag (v := .inl x) (cb := fun c => Nat.beq c 0) rfl (fun _ => rfl) g0 rfl rfl kx (by first | decide | omega) rfl ?_
  refine gx_1r (c := .ne) rfl (by first | decide | omega) rfl rfl (fun hr2 => ?_) (fun hr2 => ?_)
  · show en_ex _ _ _ _ (59, l1, [.inl (h - 1), gx_r 237], t0, n, 0) _
    refine ex_go (S := (60, l1, [.inl 0, .inl (h - 1), gx_r 237], t0, n, 0)) rfl (fun _ => rfl) rfl ?_
    refine gx_ap rfl (fun _ => rfl) g0 rfl rfl rfl (show h - 1 < 25 from by omega) (gx_run1 (show h - 1 < 25 from by omega)) (gx_full (by first | decide | omega)) rfl (fun t103 g103 k103 e103 => ?_)
    have k4 : ai_hv t103 236 2 = some (.inl s) := (e103 236 2 (by first | decide | omega)).trans ks
    have k5 : ai_hv t103 238 i = some (.inl 4294967295) := (e103 238 i (by first | decide | omega)).trans kz
    refine ex_go (S := (147, l1, [], t103, n, 0)) rfl (fun _ => rfl) rfl ?_
    refine gx_incS (i := 6) (a := i) (x := 1) rfl (fun _ => rfl) l1_6 (by first | decide | omega) rfl (fun l6 hl6 ml6 => ?_)
    have l6_0 : en_ld l6 0 = some (gx_r 236) := ml6 0 _ l1_0 rfl
    have l6_1 : en_ld l6 1 = some (.inl mo) := ml6 1 _ l1_1 rfl
    have l6_2 : en_ld l6 2 = some (.inl me) := ml6 2 _ l1_2 rfl
    have l6_3 : en_ld l6 3 = some (.inl ti) := ml6 3 _ l1_3 rfl
    have l6_4 : en_ld l6 4 = some (.inl ou) := ml6 4 _ l1_4 rfl
    have l6_5 : en_ld l6 5 = some (.inl h) := ml6 5 _ l1_5 rfl
    have l6_7 : en_ld l6 7 = some (.inl 4294967295) := ml6 7 _ hl1 rfl
    refine ex_go (S := (6, l6, [], t103, n, 0)) rfl (fun _ => rfl) rfl ?_
    have hv9 : vnot x = 0 := cif_t hr2
    exact hQ _ t103 g103 (fun c j h9 => e103 c j (by first | decide | omega)) (by rw [hv9]; exact k103) l6_0 l6_1 l6_2 l6_3 l6_4 l6_5 hl6
  · show en_ex _ _ _ _ (55, l1, [.inl (h - 1), gx_r 237], t0, n, 0) _
    refine ex_go (S := (56, l1, [.inl 1, .inl (h - 1), gx_r 237], t0, n, 0)) rfl (fun _ => rfl) rfl ?_
    refine ex_go (S := (60, l1, [.inl 1, .inl (h - 1), gx_r 237], t0, n, 0)) rfl (fun _ => rfl) rfl ?_
    refine gx_ap rfl (fun _ => rfl) g0 rfl rfl rfl (show h - 1 < 25 from by omega) (gx_run1 (show h - 1 < 25 from by omega)) (gx_full (by first | decide | omega)) rfl (fun t107 g107 k107 e107 => ?_)
    have k8 : ai_hv t107 236 2 = some (.inl s) := (e107 236 2 (by first | decide | omega)).trans ks
    have k9 : ai_hv t107 238 i = some (.inl 4294967295) := (e107 238 i (by first | decide | omega)).trans kz
    refine ex_go (S := (147, l1, [], t107, n, 0)) rfl (fun _ => rfl) rfl ?_
    refine gx_incS (i := 6) (a := i) (x := 1) rfl (fun _ => rfl) l1_6 (by first | decide | omega) rfl (fun l10 hl10 ml10 => ?_)
    have l10_0 : en_ld l10 0 = some (gx_r 236) := ml10 0 _ l1_0 rfl
    have l10_1 : en_ld l10 1 = some (.inl mo) := ml10 1 _ l1_1 rfl
    have l10_2 : en_ld l10 2 = some (.inl me) := ml10 2 _ l1_2 rfl
    have l10_3 : en_ld l10 3 = some (.inl ti) := ml10 3 _ l1_3 rfl
    have l10_4 : en_ld l10 4 = some (.inl ou) := ml10 4 _ l1_4 rfl
    have l10_5 : en_ld l10 5 = some (.inl h) := ml10 5 _ l1_5 rfl
    have l10_7 : en_ld l10 7 = some (.inl 4294967295) := ml10 7 _ hl1 rfl
    refine ex_go (S := (6, l10, [], t107, n, 0)) rfl (fun _ => rfl) rfl ?_
    have hv9 : vnot x = 1 := cif_f hr2
    exact hQ _ t107 g107 (fun c j h9 => e107 c j (by first | decide | omega)) (by rw [hv9]; exact k107) l10_0 l10_1 l10_2 l10_3 l10_4 l10_5 hl10
theorem pv236_bin (d n : Nat) {t0 : en_H} {cl : en_L} {mo me ti ou h i s x y z : Nat} {Q : en_O → Prop} (g0 : ai_HG ah_G t0) (h0 : en_ld cl 0 = some (gx_r 236)) (hm : en_ld cl 1 = some (.inl mo)) (ha : en_ld cl 2 = some (.inl me)) (hb : en_ld cl 3 = some (.inl ti)) (ho4 : en_ld cl 4 = some (.inl ou)) (h5 : en_ld cl 5 = some (.inl h)) (h6 : en_ld cl 6 = some (.inl i)) (ks : ai_hv t0 236 2 = some (.inl s)) (hs : s ≤ 1000) (hi : i < s) (hh : h ≤ 25) (hme : me < 4294967296) (hti : ti < 4294967296) (hou : ou < 4294967296) (hz : z = 4294967290 ∨ z = 4294967289 ∨ z = 4294967288 ∨ z = 4294967292 ∨ z = 4294967291 ∨ z = 4294967294 ∨ z = 4294967293) (kz : ai_hv t0 238 i = some (.inl z)) (h1 : 2 ≤ h) (ky : ai_hv t0 237 (h - 1) = some (.inl y)) (hy : y < 4294967296) (kx : ai_hv t0 237 (h - 1 - 1) = some (.inl x)) (hx : x < 4294967296) (hQ : ∀ cl' t', ai_HG ah_G t' → (∀ c j, ¬ (c = 237 ∧ j = h - 1 - 1) → ai_hv t' c j = ai_hv t0 c j) → ai_hv t' 237 (h - 1 - 1) = some (.inl (vb (opm z) x y)) → en_ld cl' 0 = some (gx_r 236) → en_ld cl' 1 = some (.inl mo) → en_ld cl' 2 = some (.inl me) → en_ld cl' 3 = some (.inl ti) → en_ld cl' 4 = some (.inl ou) → en_ld cl' 5 = some (.inl (h - 1)) → en_ld cl' 6 = some (.inl (i + 1)) → en_ex none (en_u (d + 1)) (en_code 210) (fun _ => false) (6, cl', [], t', n, 0) Q) : en_ex none (en_u (d + 1)) (en_code 210) (fun _ => false) (6, cl, [], t0, n, 0) Q := by
  rcases hz with rfl | rfl | rfl | rfl | rfl | rfl | rfl
  · refine gx_ld (i := 6) (d := 0) (v := .inl i) rfl (fun _ => rfl) h6 rfl rfl ?_
    refine gx_ld (i := 0) (d := 2) (v := gx_r 236) rfl (fun _ => rfl) h0 rfl rfl ?_
    refine gxo_get (a := 236) rfl g0 rfl rfl ks rfl ?_
    refine gx_2f (c := .ge) rfl (by first | decide | omega) (by first | decide | omega) (show ¬ (s ≤ i) from by omega) rfl ?_
    refine gx_ld (i := 0) (d := 2) (v := gx_r 236) rfl (fun _ => rfl) h0 rfl rfl ?_
    refine gxo_ref (a := 236) (c := 238) rfl g0 rfl rfl rfl rfl rfl ?_
    refine gx_ld (i := 6) (d := 0) (v := .inl i) rfl (fun _ => rfl) h6 rfl rfl ?_
    refine gx_ag (v := .inl 4294967290) (cb := fun c => Nat.beq c 0) rfl (fun _ => rfl) g0 rfl rfl kz (by first | decide | omega) rfl ?_
    refine gx_sto (i := 7) (d := 0) rfl (fun _ => rfl) rfl rfl (fun l1 hl1 ml1 => ?_)
    have l1_0 : en_ld l1 0 = some (gx_r 236) := ml1 0 _ h0 rfl
    have l1_1 : en_ld l1 1 = some (.inl mo) := ml1 1 _ hm rfl
    have l1_2 : en_ld l1 2 = some (.inl me) := ml1 2 _ ha rfl
    have l1_3 : en_ld l1 3 = some (.inl ti) := ml1 3 _ hb rfl
    have l1_4 : en_ld l1 4 = some (.inl ou) := ml1 4 _ ho4 rfl
    have l1_5 : en_ld l1 5 = some (.inl h) := ml1 5 _ h5 rfl
    have l1_6 : en_ld l1 6 = some (.inl i) := ml1 6 _ h6 rfl
    refine gx_ld (i := 7) (d := 0) (v := .inl 4294967290) rfl (fun _ => rfl) hl1 rfl rfl ?_
    refine ex_go (S := (27, l1, [.inl 4294967295, .inl 4294967290], t0, n, 0)) rfl (fun _ => rfl) rfl ?_
    refine ex_go (S := (64, l1, [], t0, n, 0)) rfl (fun _ => rfl) rfl ?_
    refine gx_ld (i := 7) (d := 0) (v := .inl 4294967290) rfl (fun _ => rfl) hl1 rfl rfl ?_
    refine ex_go (S := (69, l1, [], t0, n, 0)) rfl (fun _ => rfl) rfl ?_
    refine gx_ld (i := 7) (d := 0) (v := .inl 4294967290) rfl (fun _ => rfl) hl1 rfl rfl ?_
    refine ex_go (S := (73, l1, [.inl 4294967288, .inl 4294967290], t0, n, 0)) rfl (fun _ => rfl) rfl ?_
    refine ex_go (S := (76, l1, [], t0, n, 0)) rfl (fun _ => rfl) rfl ?_
    refine gx_ld (i := 5) (d := 0) (v := .inl h) rfl (fun _ => rfl) l1_5 rfl rfl ?_
    refine ex_go (S := (79, l1, [.inl 1, .inl h], t0, n, 0)) rfl (fun _ => rfl) rfl ?_
    refine gx_2f (c := .le) rfl (by first | decide | omega) (by first | decide | omega) (show ¬ (h ≤ 1) from by omega) rfl ?_
    refine gx_decS (i := 5) (a := h) rfl (fun _ => rfl) l1_5 (by first | decide | omega) (by first | decide | omega) rfl (fun l2 hl2 ml2 => ?_)
    have l2_0 : en_ld l2 0 = some (gx_r 236) := ml2 0 _ l1_0 rfl
    have l2_1 : en_ld l2 1 = some (.inl mo) := ml2 1 _ l1_1 rfl
    have l2_2 : en_ld l2 2 = some (.inl me) := ml2 2 _ l1_2 rfl
    have l2_3 : en_ld l2 3 = some (.inl ti) := ml2 3 _ l1_3 rfl
    have l2_4 : en_ld l2 4 = some (.inl ou) := ml2 4 _ l1_4 rfl
    have l2_6 : en_ld l2 6 = some (.inl i) := ml2 6 _ l1_6 rfl
    have l2_7 : en_ld l2 7 = some (.inl 4294967290) := ml2 7 _ hl1 rfl
    refine gx_ld (i := 0) (d := 2) (v := gx_r 236) rfl (fun _ => rfl) l2_0 rfl rfl ?_
    refine gxo_ref (a := 236) (c := 237) rfl g0 rfl rfl rfl rfl rfl ?_
    refine gx_ld (i := 5) (d := 0) (v := .inl (h - 1)) rfl (fun _ => rfl) hl2 rfl rfl ?_
    refine ex_go (S := (92, l2, [.inl 1, .inl (h - 1), gx_r 237], t0, n, 0)) rfl (fun _ => rfl) rfl ?_
    refine gx_isub rfl (by first | decide | omega) (by first | decide | omega) rfl ?_
    refine gx_ld (i := 7) (d := 0) (v := .inl 4294967290) rfl (fun _ => rfl) l2_7 rfl rfl ?_
    refine gx_ld (i := 0) (d := 2) (v := gx_r 236) rfl (fun _ => rfl) l2_0 rfl rfl ?_
    refine gxo_ref (a := 236) (c := 237) rfl g0 rfl rfl rfl rfl rfl ?_
    refine gx_ld (i := 5) (d := 0) (v := .inl (h - 1)) rfl (fun _ => rfl) hl2 rfl rfl ?_
    refine ex_go (S := (102, l2, [.inl 1, .inl (h - 1), gx_r 237, .inl 4294967290, .inl ((h - 1) - 1), gx_r 237], t0, n, 0)) rfl (fun _ => rfl) rfl ?_
    refine gx_isub rfl (by first | decide | omega) (by first | decide | omega) rfl ?_
    refine gx_ag (v := .inl x) (cb := fun c => Nat.beq c 0) rfl (fun _ => rfl) g0 rfl rfl kx (by first | decide | omega) rfl ?_
    refine gx_ld (i := 0) (d := 2) (v := gx_r 236) rfl (fun _ => rfl) l2_0 rfl rfl ?_
    refine gxo_ref (a := 236) (c := 237) rfl g0 rfl rfl rfl rfl rfl ?_
    refine gx_ld (i := 5) (d := 0) (v := .inl (h - 1)) rfl (fun _ => rfl) hl2 rfl rfl ?_
    refine gx_ag (v := .inl y) (cb := fun c => Nat.beq c 0) rfl (fun _ => rfl) g0 rfl rfl ky (by first | decide | omega) rfl ?_
    have hvb := vb_lt (o := opm 4294967290) (a := x) (b := y)
    refine ex_stat rfl rfl rfl rfl rfl (pc_joined d n (t0 := t0) (z := 4294967290) (x := x) (y := y) (by first | decide | omega) (by first | decide | omega) (by first | decide | omega)) (Nat.le_refl _) rfl ?_
    show en_ex _ _ _ _ (114, l2, [.inl (vb (opm 4294967290) x y), .inl ((h - 1) - 1), gx_r 237], t0, n, 0) _
    refine gx_ap rfl (fun _ => rfl) g0 rfl rfl rfl (show (h - 1) - 1 < 25 from by omega) (gx_run1 (show (h - 1) - 1 < 25 from by omega)) (gx_full (by first | decide | omega)) rfl (fun t103 g103 k103 e103 => ?_)
    have k4 : ai_hv t103 237 (h - 1) = some (.inl y) := (e103 237 (h - 1) (by first | decide | omega)).trans ky
    have k5 : ai_hv t103 236 2 = some (.inl s) := (e103 236 2 (by first | decide | omega)).trans ks
    have k6 : ai_hv t103 238 i = some (.inl 4294967290) := (e103 238 i (by first | decide | omega)).trans kz
    refine ex_go (S := (147, l2, [], t103, n, 0)) rfl (fun _ => rfl) rfl ?_
    refine gx_incS (i := 6) (a := i) (x := 1) rfl (fun _ => rfl) l2_6 (by first | decide | omega) rfl (fun l7 hl7 ml7 => ?_)
    have l7_0 : en_ld l7 0 = some (gx_r 236) := ml7 0 _ l2_0 rfl
    have l7_1 : en_ld l7 1 = some (.inl mo) := ml7 1 _ l2_1 rfl
    have l7_2 : en_ld l7 2 = some (.inl me) := ml7 2 _ l2_2 rfl
    have l7_3 : en_ld l7 3 = some (.inl ti) := ml7 3 _ l2_3 rfl
    have l7_4 : en_ld l7 4 = some (.inl ou) := ml7 4 _ l2_4 rfl
    have l7_7 : en_ld l7 7 = some (.inl 4294967290) := ml7 7 _ l2_7 rfl
    have l7_5 : en_ld l7 5 = some (.inl (h - 1)) := ml7 5 _ hl2 rfl
    refine ex_go (S := (6, l7, [], t103, n, 0)) rfl (fun _ => rfl) rfl ?_
    exact hQ _ t103 g103 (fun c j h9 => e103 c j (by first | decide | omega)) k103 l7_0 l7_1 l7_2 l7_3 l7_4 l7_5 hl7
  · refine gx_ld (i := 6) (d := 0) (v := .inl i) rfl (fun _ => rfl) h6 rfl rfl ?_
    refine gx_ld (i := 0) (d := 2) (v := gx_r 236) rfl (fun _ => rfl) h0 rfl rfl ?_
    refine gxo_get (a := 236) rfl g0 rfl rfl ks rfl ?_
    refine gx_2f (c := .ge) rfl (by first | decide | omega) (by first | decide | omega) (show ¬ (s ≤ i) from by omega) rfl ?_
    refine gx_ld (i := 0) (d := 2) (v := gx_r 236) rfl (fun _ => rfl) h0 rfl rfl ?_
    refine gxo_ref (a := 236) (c := 238) rfl g0 rfl rfl rfl rfl rfl ?_
    refine gx_ld (i := 6) (d := 0) (v := .inl i) rfl (fun _ => rfl) h6 rfl rfl ?_
    refine gx_ag (v := .inl 4294967289) (cb := fun c => Nat.beq c 0) rfl (fun _ => rfl) g0 rfl rfl kz (by first | decide | omega) rfl ?_
    refine gx_sto (i := 7) (d := 0) rfl (fun _ => rfl) rfl rfl (fun l1 hl1 ml1 => ?_)
    have l1_0 : en_ld l1 0 = some (gx_r 236) := ml1 0 _ h0 rfl
    have l1_1 : en_ld l1 1 = some (.inl mo) := ml1 1 _ hm rfl
    have l1_2 : en_ld l1 2 = some (.inl me) := ml1 2 _ ha rfl
    have l1_3 : en_ld l1 3 = some (.inl ti) := ml1 3 _ hb rfl
    have l1_4 : en_ld l1 4 = some (.inl ou) := ml1 4 _ ho4 rfl
    have l1_5 : en_ld l1 5 = some (.inl h) := ml1 5 _ h5 rfl
    have l1_6 : en_ld l1 6 = some (.inl i) := ml1 6 _ h6 rfl
    refine gx_ld (i := 7) (d := 0) (v := .inl 4294967289) rfl (fun _ => rfl) hl1 rfl rfl ?_
    refine ex_go (S := (27, l1, [.inl 4294967295, .inl 4294967289], t0, n, 0)) rfl (fun _ => rfl) rfl ?_
    refine ex_go (S := (64, l1, [], t0, n, 0)) rfl (fun _ => rfl) rfl ?_
    refine gx_ld (i := 7) (d := 0) (v := .inl 4294967289) rfl (fun _ => rfl) hl1 rfl rfl ?_
    refine ex_go (S := (69, l1, [], t0, n, 0)) rfl (fun _ => rfl) rfl ?_
    refine gx_ld (i := 7) (d := 0) (v := .inl 4294967289) rfl (fun _ => rfl) hl1 rfl rfl ?_
    refine ex_go (S := (73, l1, [.inl 4294967288, .inl 4294967289], t0, n, 0)) rfl (fun _ => rfl) rfl ?_
    refine ex_go (S := (76, l1, [], t0, n, 0)) rfl (fun _ => rfl) rfl ?_
    refine gx_ld (i := 5) (d := 0) (v := .inl h) rfl (fun _ => rfl) l1_5 rfl rfl ?_
    refine ex_go (S := (79, l1, [.inl 1, .inl h], t0, n, 0)) rfl (fun _ => rfl) rfl ?_
    refine gx_2f (c := .le) rfl (by first | decide | omega) (by first | decide | omega) (show ¬ (h ≤ 1) from by omega) rfl ?_
    refine gx_decS (i := 5) (a := h) rfl (fun _ => rfl) l1_5 (by first | decide | omega) (by first | decide | omega) rfl (fun l2 hl2 ml2 => ?_)
    have l2_0 : en_ld l2 0 = some (gx_r 236) := ml2 0 _ l1_0 rfl
    have l2_1 : en_ld l2 1 = some (.inl mo) := ml2 1 _ l1_1 rfl
    have l2_2 : en_ld l2 2 = some (.inl me) := ml2 2 _ l1_2 rfl
    have l2_3 : en_ld l2 3 = some (.inl ti) := ml2 3 _ l1_3 rfl
    have l2_4 : en_ld l2 4 = some (.inl ou) := ml2 4 _ l1_4 rfl
    have l2_6 : en_ld l2 6 = some (.inl i) := ml2 6 _ l1_6 rfl
    have l2_7 : en_ld l2 7 = some (.inl 4294967289) := ml2 7 _ hl1 rfl
    refine gx_ld (i := 0) (d := 2) (v := gx_r 236) rfl (fun _ => rfl) l2_0 rfl rfl ?_
    refine gxo_ref (a := 236) (c := 237) rfl g0 rfl rfl rfl rfl rfl ?_
    refine gx_ld (i := 5) (d := 0) (v := .inl (h - 1)) rfl (fun _ => rfl) hl2 rfl rfl ?_
    refine ex_go (S := (92, l2, [.inl 1, .inl (h - 1), gx_r 237], t0, n, 0)) rfl (fun _ => rfl) rfl ?_
    refine gx_isub rfl (by first | decide | omega) (by first | decide | omega) rfl ?_
    refine gx_ld (i := 7) (d := 0) (v := .inl 4294967289) rfl (fun _ => rfl) l2_7 rfl rfl ?_
    refine gx_ld (i := 0) (d := 2) (v := gx_r 236) rfl (fun _ => rfl) l2_0 rfl rfl ?_
    refine gxo_ref (a := 236) (c := 237) rfl g0 rfl rfl rfl rfl rfl ?_
    refine gx_ld (i := 5) (d := 0) (v := .inl (h - 1)) rfl (fun _ => rfl) hl2 rfl rfl ?_
    refine ex_go (S := (102, l2, [.inl 1, .inl (h - 1), gx_r 237, .inl 4294967289, .inl ((h - 1) - 1), gx_r 237], t0, n, 0)) rfl (fun _ => rfl) rfl ?_
    refine gx_isub rfl (by first | decide | omega) (by first | decide | omega) rfl ?_
    refine gx_ag (v := .inl x) (cb := fun c => Nat.beq c 0) rfl (fun _ => rfl) g0 rfl rfl kx (by first | decide | omega) rfl ?_
    refine gx_ld (i := 0) (d := 2) (v := gx_r 236) rfl (fun _ => rfl) l2_0 rfl rfl ?_
    refine gxo_ref (a := 236) (c := 237) rfl g0 rfl rfl rfl rfl rfl ?_
    refine gx_ld (i := 5) (d := 0) (v := .inl (h - 1)) rfl (fun _ => rfl) hl2 rfl rfl ?_
    refine gx_ag (v := .inl y) (cb := fun c => Nat.beq c 0) rfl (fun _ => rfl) g0 rfl rfl ky (by first | decide | omega) rfl ?_
    have hvb := vb_lt (o := opm 4294967289) (a := x) (b := y)
    refine ex_stat rfl rfl rfl rfl rfl (pc_joined d n (t0 := t0) (z := 4294967289) (x := x) (y := y) (by first | decide | omega) (by first | decide | omega) (by first | decide | omega)) (Nat.le_refl _) rfl ?_
    show en_ex _ _ _ _ (114, l2, [.inl (vb (opm 4294967289) x y), .inl ((h - 1) - 1), gx_r 237], t0, n, 0) _
    refine gx_ap rfl (fun _ => rfl) g0 rfl rfl rfl (show (h - 1) - 1 < 25 from by omega) (gx_run1 (show (h - 1) - 1 < 25 from by omega)) (gx_full (by first | decide | omega)) rfl (fun t103 g103 k103 e103 => ?_)
    have k4 : ai_hv t103 237 (h - 1) = some (.inl y) := (e103 237 (h - 1) (by first | decide | omega)).trans ky
    have k5 : ai_hv t103 236 2 = some (.inl s) := (e103 236 2 (by first | decide | omega)).trans ks
    have k6 : ai_hv t103 238 i = some (.inl 4294967289) := (e103 238 i (by first | decide | omega)).trans kz
    refine ex_go (S := (147, l2, [], t103, n, 0)) rfl (fun _ => rfl) rfl ?_
    refine gx_incS (i := 6) (a := i) (x := 1) rfl (fun _ => rfl) l2_6 (by first | decide | omega) rfl (fun l7 hl7 ml7 => ?_)
    have l7_0 : en_ld l7 0 = some (gx_r 236) := ml7 0 _ l2_0 rfl
    have l7_1 : en_ld l7 1 = some (.inl mo) := ml7 1 _ l2_1 rfl
    have l7_2 : en_ld l7 2 = some (.inl me) := ml7 2 _ l2_2 rfl
    have l7_3 : en_ld l7 3 = some (.inl ti) := ml7 3 _ l2_3 rfl
    have l7_4 : en_ld l7 4 = some (.inl ou) := ml7 4 _ l2_4 rfl
    have l7_7 : en_ld l7 7 = some (.inl 4294967289) := ml7 7 _ l2_7 rfl
    have l7_5 : en_ld l7 5 = some (.inl (h - 1)) := ml7 5 _ hl2 rfl
    refine ex_go (S := (6, l7, [], t103, n, 0)) rfl (fun _ => rfl) rfl ?_
    exact hQ _ t103 g103 (fun c j h9 => e103 c j (by first | decide | omega)) k103 l7_0 l7_1 l7_2 l7_3 l7_4 l7_5 hl7
  · refine gx_ld (i := 6) (d := 0) (v := .inl i) rfl (fun _ => rfl) h6 rfl rfl ?_
    refine gx_ld (i := 0) (d := 2) (v := gx_r 236) rfl (fun _ => rfl) h0 rfl rfl ?_
    refine gxo_get (a := 236) rfl g0 rfl rfl ks rfl ?_
    refine gx_2f (c := .ge) rfl (by first | decide | omega) (by first | decide | omega) (show ¬ (s ≤ i) from by omega) rfl ?_
    refine gx_ld (i := 0) (d := 2) (v := gx_r 236) rfl (fun _ => rfl) h0 rfl rfl ?_
    refine gxo_ref (a := 236) (c := 238) rfl g0 rfl rfl rfl rfl rfl ?_
    refine gx_ld (i := 6) (d := 0) (v := .inl i) rfl (fun _ => rfl) h6 rfl rfl ?_
    refine gx_ag (v := .inl 4294967288) (cb := fun c => Nat.beq c 0) rfl (fun _ => rfl) g0 rfl rfl kz (by first | decide | omega) rfl ?_
    refine gx_sto (i := 7) (d := 0) rfl (fun _ => rfl) rfl rfl (fun l1 hl1 ml1 => ?_)
    have l1_0 : en_ld l1 0 = some (gx_r 236) := ml1 0 _ h0 rfl
    have l1_1 : en_ld l1 1 = some (.inl mo) := ml1 1 _ hm rfl
    have l1_2 : en_ld l1 2 = some (.inl me) := ml1 2 _ ha rfl
    have l1_3 : en_ld l1 3 = some (.inl ti) := ml1 3 _ hb rfl
    have l1_4 : en_ld l1 4 = some (.inl ou) := ml1 4 _ ho4 rfl
    have l1_5 : en_ld l1 5 = some (.inl h) := ml1 5 _ h5 rfl
    have l1_6 : en_ld l1 6 = some (.inl i) := ml1 6 _ h6 rfl
    refine gx_ld (i := 7) (d := 0) (v := .inl 4294967288) rfl (fun _ => rfl) hl1 rfl rfl ?_
    refine ex_go (S := (27, l1, [.inl 4294967295, .inl 4294967288], t0, n, 0)) rfl (fun _ => rfl) rfl ?_
    refine ex_go (S := (64, l1, [], t0, n, 0)) rfl (fun _ => rfl) rfl ?_
    refine gx_ld (i := 7) (d := 0) (v := .inl 4294967288) rfl (fun _ => rfl) hl1 rfl rfl ?_
    refine ex_go (S := (69, l1, [], t0, n, 0)) rfl (fun _ => rfl) rfl ?_
    refine gx_ld (i := 7) (d := 0) (v := .inl 4294967288) rfl (fun _ => rfl) hl1 rfl rfl ?_
    refine ex_go (S := (73, l1, [.inl 4294967288, .inl 4294967288], t0, n, 0)) rfl (fun _ => rfl) rfl ?_
    refine ex_go (S := (76, l1, [], t0, n, 0)) rfl (fun _ => rfl) rfl ?_
    refine gx_ld (i := 5) (d := 0) (v := .inl h) rfl (fun _ => rfl) l1_5 rfl rfl ?_
    refine ex_go (S := (79, l1, [.inl 1, .inl h], t0, n, 0)) rfl (fun _ => rfl) rfl ?_
    refine gx_2f (c := .le) rfl (by first | decide | omega) (by first | decide | omega) (show ¬ (h ≤ 1) from by omega) rfl ?_
    refine gx_decS (i := 5) (a := h) rfl (fun _ => rfl) l1_5 (by first | decide | omega) (by first | decide | omega) rfl (fun l2 hl2 ml2 => ?_)
    have l2_0 : en_ld l2 0 = some (gx_r 236) := ml2 0 _ l1_0 rfl
    have l2_1 : en_ld l2 1 = some (.inl mo) := ml2 1 _ l1_1 rfl
    have l2_2 : en_ld l2 2 = some (.inl me) := ml2 2 _ l1_2 rfl
    have l2_3 : en_ld l2 3 = some (.inl ti) := ml2 3 _ l1_3 rfl
    have l2_4 : en_ld l2 4 = some (.inl ou) := ml2 4 _ l1_4 rfl
    have l2_6 : en_ld l2 6 = some (.inl i) := ml2 6 _ l1_6 rfl
    have l2_7 : en_ld l2 7 = some (.inl 4294967288) := ml2 7 _ hl1 rfl
    refine gx_ld (i := 0) (d := 2) (v := gx_r 236) rfl (fun _ => rfl) l2_0 rfl rfl ?_
    refine gxo_ref (a := 236) (c := 237) rfl g0 rfl rfl rfl rfl rfl ?_
    refine gx_ld (i := 5) (d := 0) (v := .inl (h - 1)) rfl (fun _ => rfl) hl2 rfl rfl ?_
    refine ex_go (S := (92, l2, [.inl 1, .inl (h - 1), gx_r 237], t0, n, 0)) rfl (fun _ => rfl) rfl ?_
    refine gx_isub rfl (by first | decide | omega) (by first | decide | omega) rfl ?_
    refine gx_ld (i := 7) (d := 0) (v := .inl 4294967288) rfl (fun _ => rfl) l2_7 rfl rfl ?_
    refine gx_ld (i := 0) (d := 2) (v := gx_r 236) rfl (fun _ => rfl) l2_0 rfl rfl ?_
    refine gxo_ref (a := 236) (c := 237) rfl g0 rfl rfl rfl rfl rfl ?_
    refine gx_ld (i := 5) (d := 0) (v := .inl (h - 1)) rfl (fun _ => rfl) hl2 rfl rfl ?_
    refine ex_go (S := (102, l2, [.inl 1, .inl (h - 1), gx_r 237, .inl 4294967288, .inl ((h - 1) - 1), gx_r 237], t0, n, 0)) rfl (fun _ => rfl) rfl ?_
    refine gx_isub rfl (by first | decide | omega) (by first | decide | omega) rfl ?_
    refine gx_ag (v := .inl x) (cb := fun c => Nat.beq c 0) rfl (fun _ => rfl) g0 rfl rfl kx (by first | decide | omega) rfl ?_
    refine gx_ld (i := 0) (d := 2) (v := gx_r 236) rfl (fun _ => rfl) l2_0 rfl rfl ?_
    refine gxo_ref (a := 236) (c := 237) rfl g0 rfl rfl rfl rfl rfl ?_
    refine gx_ld (i := 5) (d := 0) (v := .inl (h - 1)) rfl (fun _ => rfl) hl2 rfl rfl ?_
    refine gx_ag (v := .inl y) (cb := fun c => Nat.beq c 0) rfl (fun _ => rfl) g0 rfl rfl ky (by first | decide | omega) rfl ?_
    have hvb := vb_lt (o := opm 4294967288) (a := x) (b := y)
    refine ex_stat rfl rfl rfl rfl rfl (pc_joined d n (t0 := t0) (z := 4294967288) (x := x) (y := y) (by first | decide | omega) (by first | decide | omega) (by first | decide | omega)) (Nat.le_refl _) rfl ?_
    show en_ex _ _ _ _ (114, l2, [.inl (vb (opm 4294967288) x y), .inl ((h - 1) - 1), gx_r 237], t0, n, 0) _
    refine gx_ap rfl (fun _ => rfl) g0 rfl rfl rfl (show (h - 1) - 1 < 25 from by omega) (gx_run1 (show (h - 1) - 1 < 25 from by omega)) (gx_full (by first | decide | omega)) rfl (fun t103 g103 k103 e103 => ?_)
    have k4 : ai_hv t103 237 (h - 1) = some (.inl y) := (e103 237 (h - 1) (by first | decide | omega)).trans ky
    have k5 : ai_hv t103 236 2 = some (.inl s) := (e103 236 2 (by first | decide | omega)).trans ks
    have k6 : ai_hv t103 238 i = some (.inl 4294967288) := (e103 238 i (by first | decide | omega)).trans kz
    refine ex_go (S := (147, l2, [], t103, n, 0)) rfl (fun _ => rfl) rfl ?_
    refine gx_incS (i := 6) (a := i) (x := 1) rfl (fun _ => rfl) l2_6 (by first | decide | omega) rfl (fun l7 hl7 ml7 => ?_)
    have l7_0 : en_ld l7 0 = some (gx_r 236) := ml7 0 _ l2_0 rfl
    have l7_1 : en_ld l7 1 = some (.inl mo) := ml7 1 _ l2_1 rfl
    have l7_2 : en_ld l7 2 = some (.inl me) := ml7 2 _ l2_2 rfl
    have l7_3 : en_ld l7 3 = some (.inl ti) := ml7 3 _ l2_3 rfl
    have l7_4 : en_ld l7 4 = some (.inl ou) := ml7 4 _ l2_4 rfl
    have l7_7 : en_ld l7 7 = some (.inl 4294967288) := ml7 7 _ l2_7 rfl
    have l7_5 : en_ld l7 5 = some (.inl (h - 1)) := ml7 5 _ hl2 rfl
    refine ex_go (S := (6, l7, [], t103, n, 0)) rfl (fun _ => rfl) rfl ?_
    exact hQ _ t103 g103 (fun c j h9 => e103 c j (by first | decide | omega)) k103 l7_0 l7_1 l7_2 l7_3 l7_4 l7_5 hl7
  · refine gx_ld (i := 6) (d := 0) (v := .inl i) rfl (fun _ => rfl) h6 rfl rfl ?_
    refine gx_ld (i := 0) (d := 2) (v := gx_r 236) rfl (fun _ => rfl) h0 rfl rfl ?_
    refine gxo_get (a := 236) rfl g0 rfl rfl ks rfl ?_
    refine gx_2f (c := .ge) rfl (by first | decide | omega) (by first | decide | omega) (show ¬ (s ≤ i) from by omega) rfl ?_
    refine gx_ld (i := 0) (d := 2) (v := gx_r 236) rfl (fun _ => rfl) h0 rfl rfl ?_
    refine gxo_ref (a := 236) (c := 238) rfl g0 rfl rfl rfl rfl rfl ?_
    refine gx_ld (i := 6) (d := 0) (v := .inl i) rfl (fun _ => rfl) h6 rfl rfl ?_
    refine gx_ag (v := .inl 4294967292) (cb := fun c => Nat.beq c 0) rfl (fun _ => rfl) g0 rfl rfl kz (by first | decide | omega) rfl ?_
    refine gx_sto (i := 7) (d := 0) rfl (fun _ => rfl) rfl rfl (fun l1 hl1 ml1 => ?_)
    have l1_0 : en_ld l1 0 = some (gx_r 236) := ml1 0 _ h0 rfl
    have l1_1 : en_ld l1 1 = some (.inl mo) := ml1 1 _ hm rfl
    have l1_2 : en_ld l1 2 = some (.inl me) := ml1 2 _ ha rfl
    have l1_3 : en_ld l1 3 = some (.inl ti) := ml1 3 _ hb rfl
    have l1_4 : en_ld l1 4 = some (.inl ou) := ml1 4 _ ho4 rfl
    have l1_5 : en_ld l1 5 = some (.inl h) := ml1 5 _ h5 rfl
    have l1_6 : en_ld l1 6 = some (.inl i) := ml1 6 _ h6 rfl
    refine gx_ld (i := 7) (d := 0) (v := .inl 4294967292) rfl (fun _ => rfl) hl1 rfl rfl ?_
    refine ex_go (S := (27, l1, [.inl 4294967295, .inl 4294967292], t0, n, 0)) rfl (fun _ => rfl) rfl ?_
    refine ex_go (S := (64, l1, [], t0, n, 0)) rfl (fun _ => rfl) rfl ?_
    refine gx_ld (i := 7) (d := 0) (v := .inl 4294967292) rfl (fun _ => rfl) hl1 rfl rfl ?_
    refine ex_go (S := (69, l1, [], t0, n, 0)) rfl (fun _ => rfl) rfl ?_
    refine gx_ld (i := 7) (d := 0) (v := .inl 4294967292) rfl (fun _ => rfl) hl1 rfl rfl ?_
    refine ex_go (S := (73, l1, [.inl 4294967288, .inl 4294967292], t0, n, 0)) rfl (fun _ => rfl) rfl ?_
    refine ex_go (S := (76, l1, [], t0, n, 0)) rfl (fun _ => rfl) rfl ?_
    refine gx_ld (i := 5) (d := 0) (v := .inl h) rfl (fun _ => rfl) l1_5 rfl rfl ?_
    refine ex_go (S := (79, l1, [.inl 1, .inl h], t0, n, 0)) rfl (fun _ => rfl) rfl ?_
    refine gx_2f (c := .le) rfl (by first | decide | omega) (by first | decide | omega) (show ¬ (h ≤ 1) from by omega) rfl ?_
    refine gx_decS (i := 5) (a := h) rfl (fun _ => rfl) l1_5 (by first | decide | omega) (by first | decide | omega) rfl (fun l2 hl2 ml2 => ?_)
    have l2_0 : en_ld l2 0 = some (gx_r 236) := ml2 0 _ l1_0 rfl
    have l2_1 : en_ld l2 1 = some (.inl mo) := ml2 1 _ l1_1 rfl
    have l2_2 : en_ld l2 2 = some (.inl me) := ml2 2 _ l1_2 rfl
    have l2_3 : en_ld l2 3 = some (.inl ti) := ml2 3 _ l1_3 rfl
    have l2_4 : en_ld l2 4 = some (.inl ou) := ml2 4 _ l1_4 rfl
    have l2_6 : en_ld l2 6 = some (.inl i) := ml2 6 _ l1_6 rfl
    have l2_7 : en_ld l2 7 = some (.inl 4294967292) := ml2 7 _ hl1 rfl
    refine gx_ld (i := 0) (d := 2) (v := gx_r 236) rfl (fun _ => rfl) l2_0 rfl rfl ?_
    refine gxo_ref (a := 236) (c := 237) rfl g0 rfl rfl rfl rfl rfl ?_
    refine gx_ld (i := 5) (d := 0) (v := .inl (h - 1)) rfl (fun _ => rfl) hl2 rfl rfl ?_
    refine ex_go (S := (92, l2, [.inl 1, .inl (h - 1), gx_r 237], t0, n, 0)) rfl (fun _ => rfl) rfl ?_
    refine gx_isub rfl (by first | decide | omega) (by first | decide | omega) rfl ?_
    refine gx_ld (i := 7) (d := 0) (v := .inl 4294967292) rfl (fun _ => rfl) l2_7 rfl rfl ?_
    refine gx_ld (i := 0) (d := 2) (v := gx_r 236) rfl (fun _ => rfl) l2_0 rfl rfl ?_
    refine gxo_ref (a := 236) (c := 237) rfl g0 rfl rfl rfl rfl rfl ?_
    refine gx_ld (i := 5) (d := 0) (v := .inl (h - 1)) rfl (fun _ => rfl) hl2 rfl rfl ?_
    refine ex_go (S := (102, l2, [.inl 1, .inl (h - 1), gx_r 237, .inl 4294967292, .inl ((h - 1) - 1), gx_r 237], t0, n, 0)) rfl (fun _ => rfl) rfl ?_
    refine gx_isub rfl (by first | decide | omega) (by first | decide | omega) rfl ?_
    refine gx_ag (v := .inl x) (cb := fun c => Nat.beq c 0) rfl (fun _ => rfl) g0 rfl rfl kx (by first | decide | omega) rfl ?_
    refine gx_ld (i := 0) (d := 2) (v := gx_r 236) rfl (fun _ => rfl) l2_0 rfl rfl ?_
    refine gxo_ref (a := 236) (c := 237) rfl g0 rfl rfl rfl rfl rfl ?_
    refine gx_ld (i := 5) (d := 0) (v := .inl (h - 1)) rfl (fun _ => rfl) hl2 rfl rfl ?_
    refine gx_ag (v := .inl y) (cb := fun c => Nat.beq c 0) rfl (fun _ => rfl) g0 rfl rfl ky (by first | decide | omega) rfl ?_
    have hvb := vb_lt (o := opm 4294967292) (a := x) (b := y)
    refine ex_stat rfl rfl rfl rfl rfl (pc_joined d n (t0 := t0) (z := 4294967292) (x := x) (y := y) (by first | decide | omega) (by first | decide | omega) (by first | decide | omega)) (Nat.le_refl _) rfl ?_
    show en_ex _ _ _ _ (114, l2, [.inl (vb (opm 4294967292) x y), .inl ((h - 1) - 1), gx_r 237], t0, n, 0) _
    refine gx_ap rfl (fun _ => rfl) g0 rfl rfl rfl (show (h - 1) - 1 < 25 from by omega) (gx_run1 (show (h - 1) - 1 < 25 from by omega)) (gx_full (by first | decide | omega)) rfl (fun t103 g103 k103 e103 => ?_)
    have k4 : ai_hv t103 237 (h - 1) = some (.inl y) := (e103 237 (h - 1) (by first | decide | omega)).trans ky
    have k5 : ai_hv t103 236 2 = some (.inl s) := (e103 236 2 (by first | decide | omega)).trans ks
    have k6 : ai_hv t103 238 i = some (.inl 4294967292) := (e103 238 i (by first | decide | omega)).trans kz
    refine ex_go (S := (147, l2, [], t103, n, 0)) rfl (fun _ => rfl) rfl ?_
    refine gx_incS (i := 6) (a := i) (x := 1) rfl (fun _ => rfl) l2_6 (by first | decide | omega) rfl (fun l7 hl7 ml7 => ?_)
    have l7_0 : en_ld l7 0 = some (gx_r 236) := ml7 0 _ l2_0 rfl
    have l7_1 : en_ld l7 1 = some (.inl mo) := ml7 1 _ l2_1 rfl
    have l7_2 : en_ld l7 2 = some (.inl me) := ml7 2 _ l2_2 rfl
    have l7_3 : en_ld l7 3 = some (.inl ti) := ml7 3 _ l2_3 rfl
    have l7_4 : en_ld l7 4 = some (.inl ou) := ml7 4 _ l2_4 rfl
    have l7_7 : en_ld l7 7 = some (.inl 4294967292) := ml7 7 _ l2_7 rfl
    have l7_5 : en_ld l7 5 = some (.inl (h - 1)) := ml7 5 _ hl2 rfl
    refine ex_go (S := (6, l7, [], t103, n, 0)) rfl (fun _ => rfl) rfl ?_
    exact hQ _ t103 g103 (fun c j h9 => e103 c j (by first | decide | omega)) k103 l7_0 l7_1 l7_2 l7_3 l7_4 l7_5 hl7
  · refine gx_ld (i := 6) (d := 0) (v := .inl i) rfl (fun _ => rfl) h6 rfl rfl ?_
    refine gx_ld (i := 0) (d := 2) (v := gx_r 236) rfl (fun _ => rfl) h0 rfl rfl ?_
    refine gxo_get (a := 236) rfl g0 rfl rfl ks rfl ?_
    refine gx_2f (c := .ge) rfl (by first | decide | omega) (by first | decide | omega) (show ¬ (s ≤ i) from by omega) rfl ?_
    refine gx_ld (i := 0) (d := 2) (v := gx_r 236) rfl (fun _ => rfl) h0 rfl rfl ?_
    refine gxo_ref (a := 236) (c := 238) rfl g0 rfl rfl rfl rfl rfl ?_
    refine gx_ld (i := 6) (d := 0) (v := .inl i) rfl (fun _ => rfl) h6 rfl rfl ?_
    refine gx_ag (v := .inl 4294967291) (cb := fun c => Nat.beq c 0) rfl (fun _ => rfl) g0 rfl rfl kz (by first | decide | omega) rfl ?_
    refine gx_sto (i := 7) (d := 0) rfl (fun _ => rfl) rfl rfl (fun l1 hl1 ml1 => ?_)
    have l1_0 : en_ld l1 0 = some (gx_r 236) := ml1 0 _ h0 rfl
    have l1_1 : en_ld l1 1 = some (.inl mo) := ml1 1 _ hm rfl
    have l1_2 : en_ld l1 2 = some (.inl me) := ml1 2 _ ha rfl
    have l1_3 : en_ld l1 3 = some (.inl ti) := ml1 3 _ hb rfl
    have l1_4 : en_ld l1 4 = some (.inl ou) := ml1 4 _ ho4 rfl
    have l1_5 : en_ld l1 5 = some (.inl h) := ml1 5 _ h5 rfl
    have l1_6 : en_ld l1 6 = some (.inl i) := ml1 6 _ h6 rfl
    refine gx_ld (i := 7) (d := 0) (v := .inl 4294967291) rfl (fun _ => rfl) hl1 rfl rfl ?_
    refine ex_go (S := (27, l1, [.inl 4294967295, .inl 4294967291], t0, n, 0)) rfl (fun _ => rfl) rfl ?_
    refine ex_go (S := (64, l1, [], t0, n, 0)) rfl (fun _ => rfl) rfl ?_
    refine gx_ld (i := 7) (d := 0) (v := .inl 4294967291) rfl (fun _ => rfl) hl1 rfl rfl ?_
    refine ex_go (S := (69, l1, [], t0, n, 0)) rfl (fun _ => rfl) rfl ?_
    refine gx_ld (i := 7) (d := 0) (v := .inl 4294967291) rfl (fun _ => rfl) hl1 rfl rfl ?_
    refine ex_go (S := (73, l1, [.inl 4294967288, .inl 4294967291], t0, n, 0)) rfl (fun _ => rfl) rfl ?_
    refine ex_go (S := (76, l1, [], t0, n, 0)) rfl (fun _ => rfl) rfl ?_
    refine gx_ld (i := 5) (d := 0) (v := .inl h) rfl (fun _ => rfl) l1_5 rfl rfl ?_
    refine ex_go (S := (79, l1, [.inl 1, .inl h], t0, n, 0)) rfl (fun _ => rfl) rfl ?_
    refine gx_2f (c := .le) rfl (by first | decide | omega) (by first | decide | omega) (show ¬ (h ≤ 1) from by omega) rfl ?_
    refine gx_decS (i := 5) (a := h) rfl (fun _ => rfl) l1_5 (by first | decide | omega) (by first | decide | omega) rfl (fun l2 hl2 ml2 => ?_)
    have l2_0 : en_ld l2 0 = some (gx_r 236) := ml2 0 _ l1_0 rfl
    have l2_1 : en_ld l2 1 = some (.inl mo) := ml2 1 _ l1_1 rfl
    have l2_2 : en_ld l2 2 = some (.inl me) := ml2 2 _ l1_2 rfl
    have l2_3 : en_ld l2 3 = some (.inl ti) := ml2 3 _ l1_3 rfl
    have l2_4 : en_ld l2 4 = some (.inl ou) := ml2 4 _ l1_4 rfl
    have l2_6 : en_ld l2 6 = some (.inl i) := ml2 6 _ l1_6 rfl
    have l2_7 : en_ld l2 7 = some (.inl 4294967291) := ml2 7 _ hl1 rfl
    refine gx_ld (i := 0) (d := 2) (v := gx_r 236) rfl (fun _ => rfl) l2_0 rfl rfl ?_
    refine gxo_ref (a := 236) (c := 237) rfl g0 rfl rfl rfl rfl rfl ?_
    refine gx_ld (i := 5) (d := 0) (v := .inl (h - 1)) rfl (fun _ => rfl) hl2 rfl rfl ?_
    refine ex_go (S := (92, l2, [.inl 1, .inl (h - 1), gx_r 237], t0, n, 0)) rfl (fun _ => rfl) rfl ?_
    refine gx_isub rfl (by first | decide | omega) (by first | decide | omega) rfl ?_
    refine gx_ld (i := 7) (d := 0) (v := .inl 4294967291) rfl (fun _ => rfl) l2_7 rfl rfl ?_
    refine gx_ld (i := 0) (d := 2) (v := gx_r 236) rfl (fun _ => rfl) l2_0 rfl rfl ?_
    refine gxo_ref (a := 236) (c := 237) rfl g0 rfl rfl rfl rfl rfl ?_
    refine gx_ld (i := 5) (d := 0) (v := .inl (h - 1)) rfl (fun _ => rfl) hl2 rfl rfl ?_
    refine ex_go (S := (102, l2, [.inl 1, .inl (h - 1), gx_r 237, .inl 4294967291, .inl ((h - 1) - 1), gx_r 237], t0, n, 0)) rfl (fun _ => rfl) rfl ?_
    refine gx_isub rfl (by first | decide | omega) (by first | decide | omega) rfl ?_
    refine gx_ag (v := .inl x) (cb := fun c => Nat.beq c 0) rfl (fun _ => rfl) g0 rfl rfl kx (by first | decide | omega) rfl ?_
    refine gx_ld (i := 0) (d := 2) (v := gx_r 236) rfl (fun _ => rfl) l2_0 rfl rfl ?_
    refine gxo_ref (a := 236) (c := 237) rfl g0 rfl rfl rfl rfl rfl ?_
    refine gx_ld (i := 5) (d := 0) (v := .inl (h - 1)) rfl (fun _ => rfl) hl2 rfl rfl ?_
    refine gx_ag (v := .inl y) (cb := fun c => Nat.beq c 0) rfl (fun _ => rfl) g0 rfl rfl ky (by first | decide | omega) rfl ?_
    have hvb := vb_lt (o := opm 4294967291) (a := x) (b := y)
    refine ex_stat rfl rfl rfl rfl rfl (pc_joined d n (t0 := t0) (z := 4294967291) (x := x) (y := y) (by first | decide | omega) (by first | decide | omega) (by first | decide | omega)) (Nat.le_refl _) rfl ?_
    show en_ex _ _ _ _ (114, l2, [.inl (vb (opm 4294967291) x y), .inl ((h - 1) - 1), gx_r 237], t0, n, 0) _
    refine gx_ap rfl (fun _ => rfl) g0 rfl rfl rfl (show (h - 1) - 1 < 25 from by omega) (gx_run1 (show (h - 1) - 1 < 25 from by omega)) (gx_full (by first | decide | omega)) rfl (fun t103 g103 k103 e103 => ?_)
    have k4 : ai_hv t103 237 (h - 1) = some (.inl y) := (e103 237 (h - 1) (by first | decide | omega)).trans ky
    have k5 : ai_hv t103 236 2 = some (.inl s) := (e103 236 2 (by first | decide | omega)).trans ks
    have k6 : ai_hv t103 238 i = some (.inl 4294967291) := (e103 238 i (by first | decide | omega)).trans kz
    refine ex_go (S := (147, l2, [], t103, n, 0)) rfl (fun _ => rfl) rfl ?_
    refine gx_incS (i := 6) (a := i) (x := 1) rfl (fun _ => rfl) l2_6 (by first | decide | omega) rfl (fun l7 hl7 ml7 => ?_)
    have l7_0 : en_ld l7 0 = some (gx_r 236) := ml7 0 _ l2_0 rfl
    have l7_1 : en_ld l7 1 = some (.inl mo) := ml7 1 _ l2_1 rfl
    have l7_2 : en_ld l7 2 = some (.inl me) := ml7 2 _ l2_2 rfl
    have l7_3 : en_ld l7 3 = some (.inl ti) := ml7 3 _ l2_3 rfl
    have l7_4 : en_ld l7 4 = some (.inl ou) := ml7 4 _ l2_4 rfl
    have l7_7 : en_ld l7 7 = some (.inl 4294967291) := ml7 7 _ l2_7 rfl
    have l7_5 : en_ld l7 5 = some (.inl (h - 1)) := ml7 5 _ hl2 rfl
    refine ex_go (S := (6, l7, [], t103, n, 0)) rfl (fun _ => rfl) rfl ?_
    exact hQ _ t103 g103 (fun c j h9 => e103 c j (by first | decide | omega)) k103 l7_0 l7_1 l7_2 l7_3 l7_4 l7_5 hl7
  · refine gx_ld (i := 6) (d := 0) (v := .inl i) rfl (fun _ => rfl) h6 rfl rfl ?_
    refine gx_ld (i := 0) (d := 2) (v := gx_r 236) rfl (fun _ => rfl) h0 rfl rfl ?_
    refine gxo_get (a := 236) rfl g0 rfl rfl ks rfl ?_
    refine gx_2f (c := .ge) rfl (by first | decide | omega) (by first | decide | omega) (show ¬ (s ≤ i) from by omega) rfl ?_
    refine gx_ld (i := 0) (d := 2) (v := gx_r 236) rfl (fun _ => rfl) h0 rfl rfl ?_
    refine gxo_ref (a := 236) (c := 238) rfl g0 rfl rfl rfl rfl rfl ?_
    refine gx_ld (i := 6) (d := 0) (v := .inl i) rfl (fun _ => rfl) h6 rfl rfl ?_
    refine gx_ag (v := .inl 4294967294) (cb := fun c => Nat.beq c 0) rfl (fun _ => rfl) g0 rfl rfl kz (by first | decide | omega) rfl ?_
    refine gx_sto (i := 7) (d := 0) rfl (fun _ => rfl) rfl rfl (fun l1 hl1 ml1 => ?_)
    have l1_0 : en_ld l1 0 = some (gx_r 236) := ml1 0 _ h0 rfl
    have l1_1 : en_ld l1 1 = some (.inl mo) := ml1 1 _ hm rfl
    have l1_2 : en_ld l1 2 = some (.inl me) := ml1 2 _ ha rfl
    have l1_3 : en_ld l1 3 = some (.inl ti) := ml1 3 _ hb rfl
    have l1_4 : en_ld l1 4 = some (.inl ou) := ml1 4 _ ho4 rfl
    have l1_5 : en_ld l1 5 = some (.inl h) := ml1 5 _ h5 rfl
    have l1_6 : en_ld l1 6 = some (.inl i) := ml1 6 _ h6 rfl
    refine gx_ld (i := 7) (d := 0) (v := .inl 4294967294) rfl (fun _ => rfl) hl1 rfl rfl ?_
    refine ex_go (S := (27, l1, [.inl 4294967295, .inl 4294967294], t0, n, 0)) rfl (fun _ => rfl) rfl ?_
    refine ex_go (S := (64, l1, [], t0, n, 0)) rfl (fun _ => rfl) rfl ?_
    refine gx_ld (i := 7) (d := 0) (v := .inl 4294967294) rfl (fun _ => rfl) hl1 rfl rfl ?_
    refine ex_go (S := (69, l1, [], t0, n, 0)) rfl (fun _ => rfl) rfl ?_
    refine gx_ld (i := 7) (d := 0) (v := .inl 4294967294) rfl (fun _ => rfl) hl1 rfl rfl ?_
    refine ex_go (S := (73, l1, [.inl 4294967288, .inl 4294967294], t0, n, 0)) rfl (fun _ => rfl) rfl ?_
    refine ex_go (S := (76, l1, [], t0, n, 0)) rfl (fun _ => rfl) rfl ?_
    refine gx_ld (i := 5) (d := 0) (v := .inl h) rfl (fun _ => rfl) l1_5 rfl rfl ?_
    refine ex_go (S := (79, l1, [.inl 1, .inl h], t0, n, 0)) rfl (fun _ => rfl) rfl ?_
    refine gx_2f (c := .le) rfl (by first | decide | omega) (by first | decide | omega) (show ¬ (h ≤ 1) from by omega) rfl ?_
    refine gx_decS (i := 5) (a := h) rfl (fun _ => rfl) l1_5 (by first | decide | omega) (by first | decide | omega) rfl (fun l2 hl2 ml2 => ?_)
    have l2_0 : en_ld l2 0 = some (gx_r 236) := ml2 0 _ l1_0 rfl
    have l2_1 : en_ld l2 1 = some (.inl mo) := ml2 1 _ l1_1 rfl
    have l2_2 : en_ld l2 2 = some (.inl me) := ml2 2 _ l1_2 rfl
    have l2_3 : en_ld l2 3 = some (.inl ti) := ml2 3 _ l1_3 rfl
    have l2_4 : en_ld l2 4 = some (.inl ou) := ml2 4 _ l1_4 rfl
    have l2_6 : en_ld l2 6 = some (.inl i) := ml2 6 _ l1_6 rfl
    have l2_7 : en_ld l2 7 = some (.inl 4294967294) := ml2 7 _ hl1 rfl
    refine gx_ld (i := 0) (d := 2) (v := gx_r 236) rfl (fun _ => rfl) l2_0 rfl rfl ?_
    refine gxo_ref (a := 236) (c := 237) rfl g0 rfl rfl rfl rfl rfl ?_
    refine gx_ld (i := 5) (d := 0) (v := .inl (h - 1)) rfl (fun _ => rfl) hl2 rfl rfl ?_
    refine ex_go (S := (92, l2, [.inl 1, .inl (h - 1), gx_r 237], t0, n, 0)) rfl (fun _ => rfl) rfl ?_
    refine gx_isub rfl (by first | decide | omega) (by first | decide | omega) rfl ?_
    refine gx_ld (i := 7) (d := 0) (v := .inl 4294967294) rfl (fun _ => rfl) l2_7 rfl rfl ?_
    refine gx_ld (i := 0) (d := 2) (v := gx_r 236) rfl (fun _ => rfl) l2_0 rfl rfl ?_
    refine gxo_ref (a := 236) (c := 237) rfl g0 rfl rfl rfl rfl rfl ?_
    refine gx_ld (i := 5) (d := 0) (v := .inl (h - 1)) rfl (fun _ => rfl) hl2 rfl rfl ?_
    refine ex_go (S := (102, l2, [.inl 1, .inl (h - 1), gx_r 237, .inl 4294967294, .inl ((h - 1) - 1), gx_r 237], t0, n, 0)) rfl (fun _ => rfl) rfl ?_
    refine gx_isub rfl (by first | decide | omega) (by first | decide | omega) rfl ?_
    refine gx_ag (v := .inl x) (cb := fun c => Nat.beq c 0) rfl (fun _ => rfl) g0 rfl rfl kx (by first | decide | omega) rfl ?_
    refine gx_ld (i := 0) (d := 2) (v := gx_r 236) rfl (fun _ => rfl) l2_0 rfl rfl ?_
    refine gxo_ref (a := 236) (c := 237) rfl g0 rfl rfl rfl rfl rfl ?_
    refine gx_ld (i := 5) (d := 0) (v := .inl (h - 1)) rfl (fun _ => rfl) hl2 rfl rfl ?_
    refine gx_ag (v := .inl y) (cb := fun c => Nat.beq c 0) rfl (fun _ => rfl) g0 rfl rfl ky (by first | decide | omega) rfl ?_
    have hvb := vb_lt (o := opm 4294967294) (a := x) (b := y)
    refine ex_stat rfl rfl rfl rfl rfl (pc_joined d n (t0 := t0) (z := 4294967294) (x := x) (y := y) (by first | decide | omega) (by first | decide | omega) (by first | decide | omega)) (Nat.le_refl _) rfl ?_
    show en_ex _ _ _ _ (114, l2, [.inl (vb (opm 4294967294) x y), .inl ((h - 1) - 1), gx_r 237], t0, n, 0) _
    refine gx_ap rfl (fun _ => rfl) g0 rfl rfl rfl (show (h - 1) - 1 < 25 from by omega) (gx_run1 (show (h - 1) - 1 < 25 from by omega)) (gx_full (by first | decide | omega)) rfl (fun t103 g103 k103 e103 => ?_)
    have k4 : ai_hv t103 237 (h - 1) = some (.inl y) := (e103 237 (h - 1) (by first | decide | omega)).trans ky
    have k5 : ai_hv t103 236 2 = some (.inl s) := (e103 236 2 (by first | decide | omega)).trans ks
    have k6 : ai_hv t103 238 i = some (.inl 4294967294) := (e103 238 i (by first | decide | omega)).trans kz
    refine ex_go (S := (147, l2, [], t103, n, 0)) rfl (fun _ => rfl) rfl ?_
    refine gx_incS (i := 6) (a := i) (x := 1) rfl (fun _ => rfl) l2_6 (by first | decide | omega) rfl (fun l7 hl7 ml7 => ?_)
    have l7_0 : en_ld l7 0 = some (gx_r 236) := ml7 0 _ l2_0 rfl
    have l7_1 : en_ld l7 1 = some (.inl mo) := ml7 1 _ l2_1 rfl
    have l7_2 : en_ld l7 2 = some (.inl me) := ml7 2 _ l2_2 rfl
    have l7_3 : en_ld l7 3 = some (.inl ti) := ml7 3 _ l2_3 rfl
    have l7_4 : en_ld l7 4 = some (.inl ou) := ml7 4 _ l2_4 rfl
    have l7_7 : en_ld l7 7 = some (.inl 4294967294) := ml7 7 _ l2_7 rfl
    have l7_5 : en_ld l7 5 = some (.inl (h - 1)) := ml7 5 _ hl2 rfl
    refine ex_go (S := (6, l7, [], t103, n, 0)) rfl (fun _ => rfl) rfl ?_
    exact hQ _ t103 g103 (fun c j h9 => e103 c j (by first | decide | omega)) k103 l7_0 l7_1 l7_2 l7_3 l7_4 l7_5 hl7
  · refine gx_ld (i := 6) (d := 0) (v := .inl i) rfl (fun _ => rfl) h6 rfl rfl ?_
    refine gx_ld (i := 0) (d := 2) (v := gx_r 236) rfl (fun _ => rfl) h0 rfl rfl ?_
    refine gxo_get (a := 236) rfl g0 rfl rfl ks rfl ?_
    refine gx_2f (c := .ge) rfl (by first | decide | omega) (by first | decide | omega) (show ¬ (s ≤ i) from by omega) rfl ?_
    refine gx_ld (i := 0) (d := 2) (v := gx_r 236) rfl (fun _ => rfl) h0 rfl rfl ?_
    refine gxo_ref (a := 236) (c := 238) rfl g0 rfl rfl rfl rfl rfl ?_
    refine gx_ld (i := 6) (d := 0) (v := .inl i) rfl (fun _ => rfl) h6 rfl rfl ?_
    refine gx_ag (v := .inl 4294967293) (cb := fun c => Nat.beq c 0) rfl (fun _ => rfl) g0 rfl rfl kz (by first | decide | omega) rfl ?_
    refine gx_sto (i := 7) (d := 0) rfl (fun _ => rfl) rfl rfl (fun l1 hl1 ml1 => ?_)
    have l1_0 : en_ld l1 0 = some (gx_r 236) := ml1 0 _ h0 rfl
    have l1_1 : en_ld l1 1 = some (.inl mo) := ml1 1 _ hm rfl
    have l1_2 : en_ld l1 2 = some (.inl me) := ml1 2 _ ha rfl
    have l1_3 : en_ld l1 3 = some (.inl ti) := ml1 3 _ hb rfl
    have l1_4 : en_ld l1 4 = some (.inl ou) := ml1 4 _ ho4 rfl
    have l1_5 : en_ld l1 5 = some (.inl h) := ml1 5 _ h5 rfl
    have l1_6 : en_ld l1 6 = some (.inl i) := ml1 6 _ h6 rfl
    refine gx_ld (i := 7) (d := 0) (v := .inl 4294967293) rfl (fun _ => rfl) hl1 rfl rfl ?_
    refine ex_go (S := (27, l1, [.inl 4294967295, .inl 4294967293], t0, n, 0)) rfl (fun _ => rfl) rfl ?_
    refine ex_go (S := (64, l1, [], t0, n, 0)) rfl (fun _ => rfl) rfl ?_
    refine gx_ld (i := 7) (d := 0) (v := .inl 4294967293) rfl (fun _ => rfl) hl1 rfl rfl ?_
    refine ex_go (S := (69, l1, [], t0, n, 0)) rfl (fun _ => rfl) rfl ?_
    refine gx_ld (i := 7) (d := 0) (v := .inl 4294967293) rfl (fun _ => rfl) hl1 rfl rfl ?_
    refine ex_go (S := (73, l1, [.inl 4294967288, .inl 4294967293], t0, n, 0)) rfl (fun _ => rfl) rfl ?_
    refine ex_go (S := (76, l1, [], t0, n, 0)) rfl (fun _ => rfl) rfl ?_
    refine gx_ld (i := 5) (d := 0) (v := .inl h) rfl (fun _ => rfl) l1_5 rfl rfl ?_
    refine ex_go (S := (79, l1, [.inl 1, .inl h], t0, n, 0)) rfl (fun _ => rfl) rfl ?_
    refine gx_2f (c := .le) rfl (by first | decide | omega) (by first | decide | omega) (show ¬ (h ≤ 1) from by omega) rfl ?_
    refine gx_decS (i := 5) (a := h) rfl (fun _ => rfl) l1_5 (by first | decide | omega) (by first | decide | omega) rfl (fun l2 hl2 ml2 => ?_)
    have l2_0 : en_ld l2 0 = some (gx_r 236) := ml2 0 _ l1_0 rfl
    have l2_1 : en_ld l2 1 = some (.inl mo) := ml2 1 _ l1_1 rfl
    have l2_2 : en_ld l2 2 = some (.inl me) := ml2 2 _ l1_2 rfl
    have l2_3 : en_ld l2 3 = some (.inl ti) := ml2 3 _ l1_3 rfl
    have l2_4 : en_ld l2 4 = some (.inl ou) := ml2 4 _ l1_4 rfl
    have l2_6 : en_ld l2 6 = some (.inl i) := ml2 6 _ l1_6 rfl
    have l2_7 : en_ld l2 7 = some (.inl 4294967293) := ml2 7 _ hl1 rfl
    refine gx_ld (i := 0) (d := 2) (v := gx_r 236) rfl (fun _ => rfl) l2_0 rfl rfl ?_
    refine gxo_ref (a := 236) (c := 237) rfl g0 rfl rfl rfl rfl rfl ?_
    refine gx_ld (i := 5) (d := 0) (v := .inl (h - 1)) rfl (fun _ => rfl) hl2 rfl rfl ?_
    refine ex_go (S := (92, l2, [.inl 1, .inl (h - 1), gx_r 237], t0, n, 0)) rfl (fun _ => rfl) rfl ?_
    refine gx_isub rfl (by first | decide | omega) (by first | decide | omega) rfl ?_
    refine gx_ld (i := 7) (d := 0) (v := .inl 4294967293) rfl (fun _ => rfl) l2_7 rfl rfl ?_
    refine gx_ld (i := 0) (d := 2) (v := gx_r 236) rfl (fun _ => rfl) l2_0 rfl rfl ?_
    refine gxo_ref (a := 236) (c := 237) rfl g0 rfl rfl rfl rfl rfl ?_
    refine gx_ld (i := 5) (d := 0) (v := .inl (h - 1)) rfl (fun _ => rfl) hl2 rfl rfl ?_
    refine ex_go (S := (102, l2, [.inl 1, .inl (h - 1), gx_r 237, .inl 4294967293, .inl ((h - 1) - 1), gx_r 237], t0, n, 0)) rfl (fun _ => rfl) rfl ?_
    refine gx_isub rfl (by first | decide | omega) (by first | decide | omega) rfl ?_
    refine gx_ag (v := .inl x) (cb := fun c => Nat.beq c 0) rfl (fun _ => rfl) g0 rfl rfl kx (by first | decide | omega) rfl ?_
    refine gx_ld (i := 0) (d := 2) (v := gx_r 236) rfl (fun _ => rfl) l2_0 rfl rfl ?_
    refine gxo_ref (a := 236) (c := 237) rfl g0 rfl rfl rfl rfl rfl ?_
    refine gx_ld (i := 5) (d := 0) (v := .inl (h - 1)) rfl (fun _ => rfl) hl2 rfl rfl ?_
    refine gx_ag (v := .inl y) (cb := fun c => Nat.beq c 0) rfl (fun _ => rfl) g0 rfl rfl ky (by first | decide | omega) rfl ?_
    have hvb := vb_lt (o := opm 4294967293) (a := x) (b := y)
    refine ex_stat rfl rfl rfl rfl rfl (pc_joined d n (t0 := t0) (z := 4294967293) (x := x) (y := y) (by first | decide | omega) (by first | decide | omega) (by first | decide | omega)) (Nat.le_refl _) rfl ?_
    show en_ex _ _ _ _ (114, l2, [.inl (vb (opm 4294967293) x y), .inl ((h - 1) - 1), gx_r 237], t0, n, 0) _
    refine gx_ap rfl (fun _ => rfl) g0 rfl rfl rfl (show (h - 1) - 1 < 25 from by omega) (gx_run1 (show (h - 1) - 1 < 25 from by omega)) (gx_full (by first | decide | omega)) rfl (fun t103 g103 k103 e103 => ?_)
    have k4 : ai_hv t103 237 (h - 1) = some (.inl y) := (e103 237 (h - 1) (by first | decide | omega)).trans ky
    have k5 : ai_hv t103 236 2 = some (.inl s) := (e103 236 2 (by first | decide | omega)).trans ks
    have k6 : ai_hv t103 238 i = some (.inl 4294967293) := (e103 238 i (by first | decide | omega)).trans kz
    refine ex_go (S := (147, l2, [], t103, n, 0)) rfl (fun _ => rfl) rfl ?_
    refine gx_incS (i := 6) (a := i) (x := 1) rfl (fun _ => rfl) l2_6 (by first | decide | omega) rfl (fun l7 hl7 ml7 => ?_)
    have l7_0 : en_ld l7 0 = some (gx_r 236) := ml7 0 _ l2_0 rfl
    have l7_1 : en_ld l7 1 = some (.inl mo) := ml7 1 _ l2_1 rfl
    have l7_2 : en_ld l7 2 = some (.inl me) := ml7 2 _ l2_2 rfl
    have l7_3 : en_ld l7 3 = some (.inl ti) := ml7 3 _ l2_3 rfl
    have l7_4 : en_ld l7 4 = some (.inl ou) := ml7 4 _ l2_4 rfl
    have l7_7 : en_ld l7 7 = some (.inl 4294967293) := ml7 7 _ l2_7 rfl
    have l7_5 : en_ld l7 5 = some (.inl (h - 1)) := ml7 5 _ hl2 rfl
    refine ex_go (S := (6, l7, [], t103, n, 0)) rfl (fun _ => rfl) rfl ?_
    exact hQ _ t103 g103 (fun c j h9 => e103 c j (by first | decide | omega)) k103 l7_0 l7_1 l7_2 l7_3 l7_4 l7_5 hl7
theorem pv236_end (d n : Nat) {t0 : en_H} {cl : en_L} {mo me ti ou h i s v : Nat} {Q : en_O → Prop} (g0 : ai_HG ah_G t0) (h0 : en_ld cl 0 = some (gx_r 236)) (hm : en_ld cl 1 = some (.inl mo)) (ha : en_ld cl 2 = some (.inl me)) (hb : en_ld cl 3 = some (.inl ti)) (ho4 : en_ld cl 4 = some (.inl ou)) (h5 : en_ld cl 5 = some (.inl h)) (h6 : en_ld cl 6 = some (.inl i)) (ks : ai_hv t0 236 2 = some (.inl s)) (hs : s ≤ 1000) (hi : i = s) (hh : h = 1) (hmo : mo < 2147483648) (kv : ai_hv t0 237 0 = some (.inl v)) (hv : v < 4294967296) (hQ : Q (.inl (some (.inl (vcl mo v)), t0, n, 0))) : en_ex none (en_u (d + 1)) (en_code 210) (fun _ => false) (6, cl, [], t0, n, 0) Q := by
  refine gx_ld (i := 6) (d := 0) (v := .inl i) rfl (fun _ => rfl) h6 rfl rfl ?_
  refine gx_ld (i := 0) (d := 2) (v := gx_r 236) rfl (fun _ => rfl) h0 rfl rfl ?_
  refine gxo_get (a := 236) rfl g0 rfl rfl ks rfl ?_
  refine gx_2t (c := .ge) rfl (by first | decide | omega) (by first | decide | omega) (show s ≤ i from by omega) rfl ?_
  refine gx_ld (i := 5) (d := 0) (v := .inl h) rfl (fun _ => rfl) h5 rfl rfl ?_
  refine gx_1f (c := .le) rfl (by first | decide | omega) (show ¬ (h ≤ 0) from by omega) rfl ?_
  by_cases hvn : v < 2147483648
  · rw [vcl_n hvn] at hQ
    refine ex_go (S := (159, cl, [.inl 0], t0, n, 0)) rfl (fun _ => rfl) rfl ?_
    refine gx_ld (i := 1) (d := 0) (v := .inl mo) rfl (fun _ => rfl) hm rfl rfl ?_
    refine gx_ld (i := 0) (d := 2) (v := gx_r 236) rfl (fun _ => rfl) h0 rfl rfl ?_
    refine gxo_ref (a := 236) (c := 237) rfl g0 rfl rfl rfl rfl rfl ?_
    refine ex_go (S := (165, cl, [.inl 0, gx_r 237, .inl mo, .inl 0], t0, n, 0)) rfl (fun _ => rfl) rfl ?_
    refine gx_ag (v := .inl v) (cb := fun c => Nat.beq c 0) rfl (fun _ => rfl) g0 rfl rfl kv (by first | decide | omega) rfl ?_
    refine gx_inn rfl rfl rfl (zk_min (by first | decide | omega) (by first | decide | omega)) rfl rfl ?_
    refine gx_imm (m := min mo v) rfl rfl ((zk_max (by first | decide | omega) (by first | decide | omega)).trans (by rw [Nat.zero_max])) rfl rfl ?_
    refine ex_go (S := (176, cl, [.inl (min mo v)], t0, n, 0)) rfl (fun _ => rfl) rfl ?_
    refine ex_ret (r := (some (.inl (min mo v)), t0, n, 0)) rfl (fun _ => rfl) ?_
    exact hQ
  · rw [vcl_0 hvn] at hQ
    refine ex_go (S := (159, cl, [.inl 0], t0, n, 0)) rfl (fun _ => rfl) rfl ?_
    refine gx_ld (i := 1) (d := 0) (v := .inl mo) rfl (fun _ => rfl) hm rfl rfl ?_
    refine gx_ld (i := 0) (d := 2) (v := gx_r 236) rfl (fun _ => rfl) h0 rfl rfl ?_
    refine gxo_ref (a := 236) (c := 237) rfl g0 rfl rfl rfl rfl rfl ?_
    refine ex_go (S := (165, cl, [.inl 0, gx_r 237, .inl mo, .inl 0], t0, n, 0)) rfl (fun _ => rfl) rfl ?_
    refine gx_ag (v := .inl v) (cb := fun c => Nat.beq c 0) rfl (fun _ => rfl) g0 rfl rfl kv (by first | decide | omega) rfl ?_
    refine gx_inn (m := v) rfl rfl rfl (zk_minn (by first | decide | omega) (by first | decide | omega) (by first | decide | omega)) rfl rfl ?_
    refine gx_imm (m := 0) rfl rfl (zk_maxn (by first | decide | omega) (by first | decide | omega)) rfl rfl ?_
    refine ex_go (S := (176, cl, [.inl 0], t0, n, 0)) rfl (fun _ => rfl) rfl ?_
    refine ex_ret (r := (some (.inl 0), t0, n, 0)) rfl (fun _ => rfl) ?_
    exact hQ
theorem pv236_l (d n : Nat) {tb : en_H} {mo me ti ou s : Nat} (hmo : mo < 2147483648) (hme : me < 4294967296) (hti : ti < 4294967296) (hou : ou < 4294967296) (kb : ai_hv tb 236 2 = some (.inl s)) (hs : s ≤ 1000) : ∀ (L : List Nat) (i : Nat) (q : List Nat) (cl : en_L) (t0 : en_H), cco tb 236 i L → i + L.length = s → (∀ z, z ∈ L → ∃ fh, vo fh z) → hrun 25 L q.length = some 1 → q.length ≤ 25 → ai_HG ah_G t0 → (∀ c i, c ≠ 237 → ai_hv t0 c i = ai_hv tb c i) → stk t0 237 q → en_ld cl 0 = some (gx_r 236) → en_ld cl 1 = some (.inl mo) → en_ld cl 2 = some (.inl me) → en_ld cl 3 = some (.inl ti) → en_ld cl 4 = some (.inl ou) → en_ld cl 5 = some (.inl q.length) → en_ld cl 6 = some (.inl i) → en_ex none (en_u (d + 1)) (en_code 210) (fun _ => false) (6, cl, [], t0, n, 0) (fun o => ∃ v t1, o = .inl (some (.inl (vcl mo v)), t1, n, 0) ∧ vrun me ti ou L q = [v] ∧ v < 4294967296 ∧ ai_HG ah_G t1 ∧ (∀ c i, c ≠ 237 → ai_hv t1 c i = ai_hv tb c i))
  | [], i, q, cl, t0, hc, hi, hv, hr, hq, g0, e0, hst, l0, l1, l2, l3, l4, l5, l6 => by
    have hr : some q.length = some 1 := hr
    have hl := Option.some.inj hr
    match q, hl, hst, l5 with
    | [v], _, hst, l5 =>
      exact pv236_end d n g0 l0 l1 l2 l3 l4 l5 l6 ((e0 236 2 (by decide)).trans kb) hs hi rfl hmo hst.1 hst.2.1 ⟨v, t0, rfl, rfl, hst.2.1, g0, e0⟩
  | z :: L, i, q, cl, t0, hc, hi, hv, hr, hq, g0, e0, hst, l0, l1, l2, l3, l4, l5, l6 => by
    obtain ⟨c1, c3⟩ := hc
    have hi' : i + (L.length + 1) = s := hi
    have hvz := hv z List.mem_cons_self
    have hvL : ∀ z, z ∈ L → ∃ fh, vo fh z := fun z hz => hv z (List.mem_cons_of_mem _ hz)
    have hr : (if vk z = 0 then (if q.length < 25 then hrun 25 L (q.length + 1) else none) else if vk z = 1 then (if 1 ≤ q.length then hrun 25 L q.length else none) else (if 2 ≤ q.length then hrun 25 L (q.length - 1) else none)) = some 1 := hr
    have k1 : ai_hv t0 238 i = some (.inl z) := (e0 238 i (by decide)).trans c1
    have ks := (e0 236 2 (by decide)).trans kb
    show en_ex none (en_u (d + 1)) (en_code 210) (fun _ => false) (6, cl, [], t0, n, 0) (fun o => ∃ v t1, o = .inl (some (.inl (vcl mo v)), t1, n, 0) ∧ vrun me ti ou L (vs me ti ou z q) = [v] ∧ v < 4294967296 ∧ ai_HG ah_G t1 ∧ (∀ c i, c ≠ 237 → ai_hv t1 c i = ai_hv tb c i))
    by_cases z0 : vk z = 0
    · rw [if_pos z0] at hr
      by_cases hq2 : q.length < 25
      · rw [if_pos hq2] at hr
        have hvs : vs me ti ou z q = vpt me ti ou z :: q := by unfold vs; rw [if_pos z0]
        rw [hvs]
        have hz := vk_nn z0 (Or.inr hvz)
        have hvp : vpt me ti ou z < 4294967296 := vpt_lt hme hti hou hz
        exact pv236_val d n g0 l0 l1 l2 l3 l4 l5 l6 ks hs (by first | decide | omega) hq hme hti hou hz k1 hq2 (fun cl' t' g' e' k' m0 m1 m2 m3 m4 m5 m6 => pv236_l d n hmo hme hti hou kb hs L (i + 1) (vpt me ti ou z :: q) cl' t' c3 (by first | decide | omega) hvL hr (by show q.length + 1 ≤ 25; omega) g' (fun c j h9 => (e' c j (by first | decide | omega)).trans (e0 c j h9)) ⟨k', hvp, stk_keep hst (fun j hj => e' 237 j (by first | decide | omega))⟩ m0 m1 m2 m3 m4 m5 m6)
      · rw [if_neg hq2] at hr
        cases hr
    · rw [if_neg z0] at hr
      by_cases z1 : vk z = 1
      · rw [if_pos z1] at hr
        match q, hst, hr, hq, l5 with
        | [], hst, hr, hq, l5 => exact absurd hr (by rw [if_neg (by decide)]; exact fun z => by cases z)
        | x :: r, hst, hr, hq, l5 =>
          have hr : hrun 25 L (r.length + 1) = some 1 := by rw [← hr]; exact (if_pos (Nat.succ_le_succ (Nat.zero_le _))).symm
          have hvs : vs me ti ou z (x :: r) = vnot x :: r := by unfold vs; rw [if_neg z0, if_pos z1]
          rw [hvs]
          rw [vk_1 z1] at k1
          have hq' : r.length + 1 ≤ 25 := hq
          have l5' : en_ld cl 5 = some (.inl (r.length + 1)) := l5
          have kx : ai_hv t0 237 (r.length + 1 - 1) = some (.inl x) := hst.1
          exact pv236_not d n g0 l0 l1 l2 l3 l4 l5' l6 ks hs (by first | decide | omega) hq' hme hti hou k1 (by first | decide | omega) kx hst.2.1 (fun cl' t' g' e' k' m0 m1 m2 m3 m4 m5 m6 => pv236_l d n hmo hme hti hou kb hs L (i + 1) (vnot x :: r) cl' t' c3 (by first | decide | omega) hvL hr hq' g' (fun c j h9 => (e' c j (by first | decide | omega)).trans (e0 c j h9)) ⟨k', vnot_lt, stk_keep hst.2.2 (fun j hj => e' 237 j (by first | decide | omega))⟩ m0 m1 m2 m3 m4 m5 m6)
      · rw [if_neg z1] at hr
        match q, hst, hr, hq, l5 with
        | [], hst, hr, hq, l5 => exact absurd hr (by rw [if_neg (by decide)]; exact fun z => by cases z)
        | [x], hst, hr, hq, l5 => exact absurd hr (by rw [if_neg (show ¬ 2 ≤ [x].length from (by show ¬ 2 ≤ 1; decide))]; exact fun z => by cases z)
        | y :: x :: r, hst, hr, hq, l5 =>
          have hr : hrun 25 L (r.length + 1) = some 1 := by rw [← hr]; exact (if_pos (Nat.succ_le_succ (Nat.succ_le_succ (Nat.zero_le _)))).symm
          have hvs : vs me ti ou z (y :: x :: r) = vb (opm z) x y :: r := by unfold vs; rw [if_neg z0, if_neg z1]
          rw [hvs]
          have hzz := vo_cd z0 z1
          have hq' : r.length + 1 + 1 ≤ 25 := hq
          have l5' : en_ld cl 5 = some (.inl (r.length + 1 + 1)) := l5
          have ky : ai_hv t0 237 (r.length + 1 + 1 - 1) = some (.inl y) := hst.1
          have kx : ai_hv t0 237 (r.length + 1 + 1 - 1 - 1) = some (.inl x) := hst.2.2.1
          exact pv236_bin d n g0 l0 l1 l2 l3 l4 l5' l6 ks hs (by first | decide | omega) hq' hme hti hou (by first | decide | omega) k1 (by first | decide | omega) ky hst.2.1 kx hst.2.2.2.1 (fun cl' t' g' e' k' m0 m1 m2 m3 m4 m5 m6 => pv236_l d n hmo hme hti hou kb hs L (i + 1) (vb (opm z) x y :: r) cl' t' c3 (by first | decide | omega) hvL hr (by show r.length + 1 ≤ 25; omega) g' (fun c j h9 => (e' c j (by first | decide | omega)).trans (e0 c j h9)) ⟨k', vb_lt, stk_keep hst.2.2.2.2 (fun j hj => e' 237 j (by first | decide | omega))⟩ m0 m1 m2 m3 m4 m5 m6)
theorem pc_value236 (d n : Nat) {t0 : en_H} {mo me ti ou : Nat} {L : List Nat} (g0 : ai_HG ah_G t0) (hmo : mo < 2147483648) (hme : me < 4294967296) (hti : ti < 4294967296) (hou : ou < 4294967296) (kb : ai_hv t0 236 2 = some (.inl L.length)) (hs : L.length ≤ 1000) (hc : cco t0 236 0 L) (hv : ∀ z, z ∈ L → ∃ fh, vo fh z) (hr : hrun 25 L 0 = some 1) : ∃ r, en_u (d + 2) 210 [gx_r 236, .inl mo, .inl me, .inl ti, .inl ou] t0 n = some r ∧ ∃ v t', r = (some (.inl (vcl mo v)), t', n, 0) ∧ vrun me ti ou L [] = [v] ∧ v < 4294967296 ∧ ai_HG ah_G t' ∧ (∀ c i, c ≠ 237 → ai_hv t' c i = ai_hv t0 c i) := by
  refine en_u_ex (d := d + 1) rfl ?_
  show en_ex _ _ _ _ (0, [(0, gx_r 236), (1, .inl mo), (2, .inl me), (3, .inl ti), (4, .inl ou)], [], t0, n, 0) _
  refine ex_go (S := (1, [(0, gx_r 236), (1, .inl mo), (2, .inl me), (3, .inl ti), (4, .inl ou)], [.inl 0], t0, n, 0)) rfl (fun _ => rfl) rfl ?_
  refine ex_go (S := (3, [(5, .inl 0), (0, gx_r 236), (1, .inl mo), (2, .inl me), (3, .inl ti), (4, .inl ou)], [], t0, n, 0)) rfl (fun _ => rfl) rfl ?_
  refine ex_go (S := (4, [(5, .inl 0), (0, gx_r 236), (1, .inl mo), (2, .inl me), (3, .inl ti), (4, .inl ou)], [.inl 0], t0, n, 0)) rfl (fun _ => rfl) rfl ?_
  refine ex_go (S := (6, [(6, .inl 0), (5, .inl 0), (0, gx_r 236), (1, .inl mo), (2, .inl me), (3, .inl ti), (4, .inl ou)], [], t0, n, 0)) rfl (fun _ => rfl) rfl ?_
  exact ex_imp (fun o9 h9 => by
    obtain ⟨v, t1, h8, h7⟩ := h9
    exact ⟨_, h8, v, t1, rfl, h7⟩) (pv236_l d n hmo hme hti hou kb hs L 0 [] _ t0 hc (Nat.zero_add _) hv hr (by decide) g0 (fun c i h => rfl) trivial rfl rfl rfl rfl rfl rfl rfl)
theorem pv296_val (d n : Nat) {t0 : en_H} {cl : en_L} {mo me ti ou h i s z : Nat} {Q : en_O → Prop} (g0 : ai_HG ah_G t0) (h0 : en_ld cl 0 = some (gx_r 296)) (hm : en_ld cl 1 = some (.inl mo)) (ha : en_ld cl 2 = some (.inl me)) (hb : en_ld cl 3 = some (.inl ti)) (ho4 : en_ld cl 4 = some (.inl ou)) (h5 : en_ld cl 5 = some (.inl h)) (h6 : en_ld cl 6 = some (.inl i)) (ks : ai_hv t0 296 2 = some (.inl s)) (hs : s ≤ 1000) (hi : i < s) (hh : h ≤ 25) (hme : me < 4294967296) (hti : ti < 4294967296) (hou : ou < 4294967296) (hz : z < 2147483648 ∨ z = 4294967286 ∨ z = 4294967287 ∨ z = 4294967285) (kz : ai_hv t0 298 i = some (.inl z)) (hh2 : h < 25) (hQ : ∀ cl' t', ai_HG ah_G t' → (∀ c j, ¬ (c = 297 ∧ j = h) → ai_hv t' c j = ai_hv t0 c j) → ai_hv t' 297 (h) = some (.inl (vpt me ti ou z)) → en_ld cl' 0 = some (gx_r 296) → en_ld cl' 1 = some (.inl mo) → en_ld cl' 2 = some (.inl me) → en_ld cl' 3 = some (.inl ti) → en_ld cl' 4 = some (.inl ou) → en_ld cl' 5 = some (.inl (h + 1)) → en_ld cl' 6 = some (.inl (i + 1)) → en_ex none (en_u (d + 1)) (en_code 210) (fun _ => false) (6, cl', [], t', n, 0) Q) : en_ex none (en_u (d + 1)) (en_code 210) (fun _ => false) (6, cl, [], t0, n, 0) Q := by
  rcases hz with hz | rfl | rfl | rfl
  · refine gx_ld (i := 6) (d := 0) (v := .inl i) rfl (fun _ => rfl) h6 rfl rfl ?_
    refine gx_ld (i := 0) (d := 2) (v := gx_r 296) rfl (fun _ => rfl) h0 rfl rfl ?_
    refine gxo_get (a := 296) rfl g0 rfl rfl ks rfl ?_
    refine gx_2f (c := .ge) rfl (by first | decide | omega) (by first | decide | omega) (show ¬ (s ≤ i) from by omega) rfl ?_
    refine gx_ld (i := 0) (d := 2) (v := gx_r 296) rfl (fun _ => rfl) h0 rfl rfl ?_
    refine gxo_ref (a := 296) (c := 298) rfl g0 rfl rfl rfl rfl rfl ?_
    refine gx_ld (i := 6) (d := 0) (v := .inl i) rfl (fun _ => rfl) h6 rfl rfl ?_
    refine gx_ag (v := .inl z) (cb := fun c => Nat.beq c 0) rfl (fun _ => rfl) g0 rfl rfl kz (by first | decide | omega) rfl ?_
    refine gx_sto (i := 7) (d := 0) rfl (fun _ => rfl) rfl rfl (fun l1 hl1 ml1 => ?_)
    have l1_0 : en_ld l1 0 = some (gx_r 296) := ml1 0 _ h0 rfl
    have l1_1 : en_ld l1 1 = some (.inl mo) := ml1 1 _ hm rfl
    have l1_2 : en_ld l1 2 = some (.inl me) := ml1 2 _ ha rfl
    have l1_3 : en_ld l1 3 = some (.inl ti) := ml1 3 _ hb rfl
    have l1_4 : en_ld l1 4 = some (.inl ou) := ml1 4 _ ho4 rfl
    have l1_5 : en_ld l1 5 = some (.inl h) := ml1 5 _ h5 rfl
    have l1_6 : en_ld l1 6 = some (.inl i) := ml1 6 _ h6 rfl
    refine gx_ld (i := 7) (d := 0) (v := .inl z) rfl (fun _ => rfl) hl1 rfl rfl ?_
    refine ex_go (S := (27, l1, [.inl 4294967295, .inl z], t0, n, 0)) rfl (fun _ => rfl) rfl ?_
    refine gx_2mt (c := .ne) rfl (by first | decide | omega) rfl rfl ?_
    refine gx_ld (i := 7) (d := 0) (v := .inl z) rfl (fun _ => rfl) hl1 rfl rfl ?_
    refine gx_1t (c := .ge) rfl (by first | decide | omega) (show 0 ≤ z from by omega) rfl ?_
    refine gx_ld (i := 5) (d := 0) (v := .inl h) rfl (fun _ => rfl) l1_5 rfl rfl ?_
    refine gx_ld (i := 0) (d := 2) (v := gx_r 296) rfl (fun _ => rfl) l1_0 rfl rfl ?_
    refine gxo_ref (a := 296) (c := 297) rfl g0 rfl rfl rfl rfl rfl ?_
    refine gx_alen (a := 297) (m := 25) rfl g0 rfl rfl rfl ?_
    refine gx_2f (c := .ge) rfl (by first | decide | omega) (by first | decide | omega) (show ¬ (25 ≤ h) from by omega) rfl ?_
    refine gx_ld (i := 0) (d := 2) (v := gx_r 296) rfl (fun _ => rfl) l1_0 rfl rfl ?_
    refine gxo_ref (a := 296) (c := 297) rfl g0 rfl rfl rfl rfl rfl ?_
    refine gx_ld (i := 5) (d := 0) (v := .inl h) rfl (fun _ => rfl) l1_5 rfl rfl ?_
    refine gx_ld (i := 7) (d := 0) (v := .inl z) rfl (fun _ => rfl) hl1 rfl rfl ?_
    refine gx_ld (i := 2) (d := 0) (v := .inl me) rfl (fun _ => rfl) l1_2 rfl rfl ?_
    refine gx_ld (i := 3) (d := 0) (v := .inl ti) rfl (fun _ => rfl) l1_3 rfl rfl ?_
    refine gx_ld (i := 4) (d := 0) (v := .inl ou) rfl (fun _ => rfl) l1_4 rfl rfl ?_
    have hvp : vpt me ti ou z < 4294967296 := vpt_lt hme hti hou (by first | decide | omega)
    refine ex_stat rfl rfl rfl rfl rfl (pc_part d n (t0 := t0) (z := z) (me := me) (ti := ti) (ou := ou) (by first | decide | omega)) (Nat.le_refl _) rfl ?_
    show en_ex _ _ _ _ (143, l1, [.inl (vpt me ti ou z), .inl h, gx_r 297], t0, n, 0) _
    refine gx_ap rfl (fun _ => rfl) g0 rfl rfl rfl (show h < 25 from by omega) (gx_run1 (show h < 25 from by omega)) (gx_full (by first | decide | omega)) rfl (fun t102 g102 k102 e102 => ?_)
    have k3 : ai_hv t102 296 2 = some (.inl s) := (e102 296 2 (by first | decide | omega)).trans ks
    have k4 : ai_hv t102 298 i = some (.inl z) := (e102 298 i (by first | decide | omega)).trans kz
    refine gx_incS (i := 5) (a := h) (x := 1) rfl (fun _ => rfl) l1_5 (by first | decide | omega) rfl (fun l5 hl5 ml5 => ?_)
    have l5_0 : en_ld l5 0 = some (gx_r 296) := ml5 0 _ l1_0 rfl
    have l5_1 : en_ld l5 1 = some (.inl mo) := ml5 1 _ l1_1 rfl
    have l5_2 : en_ld l5 2 = some (.inl me) := ml5 2 _ l1_2 rfl
    have l5_3 : en_ld l5 3 = some (.inl ti) := ml5 3 _ l1_3 rfl
    have l5_4 : en_ld l5 4 = some (.inl ou) := ml5 4 _ l1_4 rfl
    have l5_6 : en_ld l5 6 = some (.inl i) := ml5 6 _ l1_6 rfl
    have l5_7 : en_ld l5 7 = some (.inl z) := ml5 7 _ hl1 rfl
    refine gx_incS (i := 6) (a := i) (x := 1) rfl (fun _ => rfl) l5_6 (by first | decide | omega) rfl (fun l6 hl6 ml6 => ?_)
    have l6_0 : en_ld l6 0 = some (gx_r 296) := ml6 0 _ l5_0 rfl
    have l6_1 : en_ld l6 1 = some (.inl mo) := ml6 1 _ l5_1 rfl
    have l6_2 : en_ld l6 2 = some (.inl me) := ml6 2 _ l5_2 rfl
    have l6_3 : en_ld l6 3 = some (.inl ti) := ml6 3 _ l5_3 rfl
    have l6_4 : en_ld l6 4 = some (.inl ou) := ml6 4 _ l5_4 rfl
    have l6_7 : en_ld l6 7 = some (.inl z) := ml6 7 _ l5_7 rfl
    have l6_5 : en_ld l6 5 = some (.inl (h + 1)) := ml6 5 _ hl5 rfl
    refine ex_go (S := (6, l6, [], t102, n, 0)) rfl (fun _ => rfl) rfl ?_
    exact hQ _ t102 g102 (fun c j h9 => e102 c j (by first | decide | omega)) k102 l6_0 l6_1 l6_2 l6_3 l6_4 l6_5 hl6
  · refine gx_ld (i := 6) (d := 0) (v := .inl i) rfl (fun _ => rfl) h6 rfl rfl ?_
    refine gx_ld (i := 0) (d := 2) (v := gx_r 296) rfl (fun _ => rfl) h0 rfl rfl ?_
    refine gxo_get (a := 296) rfl g0 rfl rfl ks rfl ?_
    refine gx_2f (c := .ge) rfl (by first | decide | omega) (by first | decide | omega) (show ¬ (s ≤ i) from by omega) rfl ?_
    refine gx_ld (i := 0) (d := 2) (v := gx_r 296) rfl (fun _ => rfl) h0 rfl rfl ?_
    refine gxo_ref (a := 296) (c := 298) rfl g0 rfl rfl rfl rfl rfl ?_
    refine gx_ld (i := 6) (d := 0) (v := .inl i) rfl (fun _ => rfl) h6 rfl rfl ?_
    refine gx_ag (v := .inl 4294967286) (cb := fun c => Nat.beq c 0) rfl (fun _ => rfl) g0 rfl rfl kz (by first | decide | omega) rfl ?_
    refine gx_sto (i := 7) (d := 0) rfl (fun _ => rfl) rfl rfl (fun l1 hl1 ml1 => ?_)
    have l1_0 : en_ld l1 0 = some (gx_r 296) := ml1 0 _ h0 rfl
    have l1_1 : en_ld l1 1 = some (.inl mo) := ml1 1 _ hm rfl
    have l1_2 : en_ld l1 2 = some (.inl me) := ml1 2 _ ha rfl
    have l1_3 : en_ld l1 3 = some (.inl ti) := ml1 3 _ hb rfl
    have l1_4 : en_ld l1 4 = some (.inl ou) := ml1 4 _ ho4 rfl
    have l1_5 : en_ld l1 5 = some (.inl h) := ml1 5 _ h5 rfl
    have l1_6 : en_ld l1 6 = some (.inl i) := ml1 6 _ h6 rfl
    refine gx_ld (i := 7) (d := 0) (v := .inl 4294967286) rfl (fun _ => rfl) hl1 rfl rfl ?_
    refine ex_go (S := (27, l1, [.inl 4294967295, .inl 4294967286], t0, n, 0)) rfl (fun _ => rfl) rfl ?_
    refine ex_go (S := (64, l1, [], t0, n, 0)) rfl (fun _ => rfl) rfl ?_
    refine gx_ld (i := 7) (d := 0) (v := .inl 4294967286) rfl (fun _ => rfl) hl1 rfl rfl ?_
    refine ex_go (S := (69, l1, [], t0, n, 0)) rfl (fun _ => rfl) rfl ?_
    refine gx_ld (i := 7) (d := 0) (v := .inl 4294967286) rfl (fun _ => rfl) hl1 rfl rfl ?_
    refine ex_go (S := (73, l1, [.inl 4294967288, .inl 4294967286], t0, n, 0)) rfl (fun _ => rfl) rfl ?_
    refine ex_go (S := (118, l1, [], t0, n, 0)) rfl (fun _ => rfl) rfl ?_
    refine gx_ld (i := 5) (d := 0) (v := .inl h) rfl (fun _ => rfl) l1_5 rfl rfl ?_
    refine gx_ld (i := 0) (d := 2) (v := gx_r 296) rfl (fun _ => rfl) l1_0 rfl rfl ?_
    refine gxo_ref (a := 296) (c := 297) rfl g0 rfl rfl rfl rfl rfl ?_
    refine gx_alen (a := 297) (m := 25) rfl g0 rfl rfl rfl ?_
    refine gx_2f (c := .ge) rfl (by first | decide | omega) (by first | decide | omega) (show ¬ (25 ≤ h) from by omega) rfl ?_
    refine gx_ld (i := 0) (d := 2) (v := gx_r 296) rfl (fun _ => rfl) l1_0 rfl rfl ?_
    refine gxo_ref (a := 296) (c := 297) rfl g0 rfl rfl rfl rfl rfl ?_
    refine gx_ld (i := 5) (d := 0) (v := .inl h) rfl (fun _ => rfl) l1_5 rfl rfl ?_
    refine gx_ld (i := 7) (d := 0) (v := .inl 4294967286) rfl (fun _ => rfl) hl1 rfl rfl ?_
    refine gx_ld (i := 2) (d := 0) (v := .inl me) rfl (fun _ => rfl) l1_2 rfl rfl ?_
    refine gx_ld (i := 3) (d := 0) (v := .inl ti) rfl (fun _ => rfl) l1_3 rfl rfl ?_
    refine gx_ld (i := 4) (d := 0) (v := .inl ou) rfl (fun _ => rfl) l1_4 rfl rfl ?_
    have hvp : vpt me ti ou 4294967286 < 4294967296 := vpt_lt hme hti hou (by first | decide | omega)
    refine ex_stat rfl rfl rfl rfl rfl (pc_part d n (t0 := t0) (z := 4294967286) (me := me) (ti := ti) (ou := ou) (by first | decide | omega)) (Nat.le_refl _) rfl ?_
    show en_ex _ _ _ _ (143, l1, [.inl (vpt me ti ou 4294967286), .inl h, gx_r 297], t0, n, 0) _
    refine gx_ap rfl (fun _ => rfl) g0 rfl rfl rfl (show h < 25 from by omega) (gx_run1 (show h < 25 from by omega)) (gx_full (by first | decide | omega)) rfl (fun t102 g102 k102 e102 => ?_)
    have k3 : ai_hv t102 296 2 = some (.inl s) := (e102 296 2 (by first | decide | omega)).trans ks
    have k4 : ai_hv t102 298 i = some (.inl 4294967286) := (e102 298 i (by first | decide | omega)).trans kz
    refine gx_incS (i := 5) (a := h) (x := 1) rfl (fun _ => rfl) l1_5 (by first | decide | omega) rfl (fun l5 hl5 ml5 => ?_)
    have l5_0 : en_ld l5 0 = some (gx_r 296) := ml5 0 _ l1_0 rfl
    have l5_1 : en_ld l5 1 = some (.inl mo) := ml5 1 _ l1_1 rfl
    have l5_2 : en_ld l5 2 = some (.inl me) := ml5 2 _ l1_2 rfl
    have l5_3 : en_ld l5 3 = some (.inl ti) := ml5 3 _ l1_3 rfl
    have l5_4 : en_ld l5 4 = some (.inl ou) := ml5 4 _ l1_4 rfl
    have l5_6 : en_ld l5 6 = some (.inl i) := ml5 6 _ l1_6 rfl
    have l5_7 : en_ld l5 7 = some (.inl 4294967286) := ml5 7 _ hl1 rfl
    refine gx_incS (i := 6) (a := i) (x := 1) rfl (fun _ => rfl) l5_6 (by first | decide | omega) rfl (fun l6 hl6 ml6 => ?_)
    have l6_0 : en_ld l6 0 = some (gx_r 296) := ml6 0 _ l5_0 rfl
    have l6_1 : en_ld l6 1 = some (.inl mo) := ml6 1 _ l5_1 rfl
    have l6_2 : en_ld l6 2 = some (.inl me) := ml6 2 _ l5_2 rfl
    have l6_3 : en_ld l6 3 = some (.inl ti) := ml6 3 _ l5_3 rfl
    have l6_4 : en_ld l6 4 = some (.inl ou) := ml6 4 _ l5_4 rfl
    have l6_7 : en_ld l6 7 = some (.inl 4294967286) := ml6 7 _ l5_7 rfl
    have l6_5 : en_ld l6 5 = some (.inl (h + 1)) := ml6 5 _ hl5 rfl
    refine ex_go (S := (6, l6, [], t102, n, 0)) rfl (fun _ => rfl) rfl ?_
    exact hQ _ t102 g102 (fun c j h9 => e102 c j (by first | decide | omega)) k102 l6_0 l6_1 l6_2 l6_3 l6_4 l6_5 hl6
  · refine gx_ld (i := 6) (d := 0) (v := .inl i) rfl (fun _ => rfl) h6 rfl rfl ?_
    refine gx_ld (i := 0) (d := 2) (v := gx_r 296) rfl (fun _ => rfl) h0 rfl rfl ?_
    refine gxo_get (a := 296) rfl g0 rfl rfl ks rfl ?_
    refine gx_2f (c := .ge) rfl (by first | decide | omega) (by first | decide | omega) (show ¬ (s ≤ i) from by omega) rfl ?_
    refine gx_ld (i := 0) (d := 2) (v := gx_r 296) rfl (fun _ => rfl) h0 rfl rfl ?_
    refine gxo_ref (a := 296) (c := 298) rfl g0 rfl rfl rfl rfl rfl ?_
    refine gx_ld (i := 6) (d := 0) (v := .inl i) rfl (fun _ => rfl) h6 rfl rfl ?_
    refine gx_ag (v := .inl 4294967287) (cb := fun c => Nat.beq c 0) rfl (fun _ => rfl) g0 rfl rfl kz (by first | decide | omega) rfl ?_
    refine gx_sto (i := 7) (d := 0) rfl (fun _ => rfl) rfl rfl (fun l1 hl1 ml1 => ?_)
    have l1_0 : en_ld l1 0 = some (gx_r 296) := ml1 0 _ h0 rfl
    have l1_1 : en_ld l1 1 = some (.inl mo) := ml1 1 _ hm rfl
    have l1_2 : en_ld l1 2 = some (.inl me) := ml1 2 _ ha rfl
    have l1_3 : en_ld l1 3 = some (.inl ti) := ml1 3 _ hb rfl
    have l1_4 : en_ld l1 4 = some (.inl ou) := ml1 4 _ ho4 rfl
    have l1_5 : en_ld l1 5 = some (.inl h) := ml1 5 _ h5 rfl
    have l1_6 : en_ld l1 6 = some (.inl i) := ml1 6 _ h6 rfl
    refine gx_ld (i := 7) (d := 0) (v := .inl 4294967287) rfl (fun _ => rfl) hl1 rfl rfl ?_
    refine ex_go (S := (27, l1, [.inl 4294967295, .inl 4294967287], t0, n, 0)) rfl (fun _ => rfl) rfl ?_
    refine ex_go (S := (64, l1, [], t0, n, 0)) rfl (fun _ => rfl) rfl ?_
    refine gx_ld (i := 7) (d := 0) (v := .inl 4294967287) rfl (fun _ => rfl) hl1 rfl rfl ?_
    refine ex_go (S := (69, l1, [], t0, n, 0)) rfl (fun _ => rfl) rfl ?_
    refine gx_ld (i := 7) (d := 0) (v := .inl 4294967287) rfl (fun _ => rfl) hl1 rfl rfl ?_
    refine ex_go (S := (73, l1, [.inl 4294967288, .inl 4294967287], t0, n, 0)) rfl (fun _ => rfl) rfl ?_
    refine ex_go (S := (118, l1, [], t0, n, 0)) rfl (fun _ => rfl) rfl ?_
    refine gx_ld (i := 5) (d := 0) (v := .inl h) rfl (fun _ => rfl) l1_5 rfl rfl ?_
    refine gx_ld (i := 0) (d := 2) (v := gx_r 296) rfl (fun _ => rfl) l1_0 rfl rfl ?_
    refine gxo_ref (a := 296) (c := 297) rfl g0 rfl rfl rfl rfl rfl ?_
    refine gx_alen (a := 297) (m := 25) rfl g0 rfl rfl rfl ?_
    refine gx_2f (c := .ge) rfl (by first | decide | omega) (by first | decide | omega) (show ¬ (25 ≤ h) from by omega) rfl ?_
    refine gx_ld (i := 0) (d := 2) (v := gx_r 296) rfl (fun _ => rfl) l1_0 rfl rfl ?_
    refine gxo_ref (a := 296) (c := 297) rfl g0 rfl rfl rfl rfl rfl ?_
    refine gx_ld (i := 5) (d := 0) (v := .inl h) rfl (fun _ => rfl) l1_5 rfl rfl ?_
    refine gx_ld (i := 7) (d := 0) (v := .inl 4294967287) rfl (fun _ => rfl) hl1 rfl rfl ?_
    refine gx_ld (i := 2) (d := 0) (v := .inl me) rfl (fun _ => rfl) l1_2 rfl rfl ?_
    refine gx_ld (i := 3) (d := 0) (v := .inl ti) rfl (fun _ => rfl) l1_3 rfl rfl ?_
    refine gx_ld (i := 4) (d := 0) (v := .inl ou) rfl (fun _ => rfl) l1_4 rfl rfl ?_
    have hvp : vpt me ti ou 4294967287 < 4294967296 := vpt_lt hme hti hou (by first | decide | omega)
    refine ex_stat rfl rfl rfl rfl rfl (pc_part d n (t0 := t0) (z := 4294967287) (me := me) (ti := ti) (ou := ou) (by first | decide | omega)) (Nat.le_refl _) rfl ?_
    show en_ex _ _ _ _ (143, l1, [.inl (vpt me ti ou 4294967287), .inl h, gx_r 297], t0, n, 0) _
    refine gx_ap rfl (fun _ => rfl) g0 rfl rfl rfl (show h < 25 from by omega) (gx_run1 (show h < 25 from by omega)) (gx_full (by first | decide | omega)) rfl (fun t102 g102 k102 e102 => ?_)
    have k3 : ai_hv t102 296 2 = some (.inl s) := (e102 296 2 (by first | decide | omega)).trans ks
    have k4 : ai_hv t102 298 i = some (.inl 4294967287) := (e102 298 i (by first | decide | omega)).trans kz
    refine gx_incS (i := 5) (a := h) (x := 1) rfl (fun _ => rfl) l1_5 (by first | decide | omega) rfl (fun l5 hl5 ml5 => ?_)
    have l5_0 : en_ld l5 0 = some (gx_r 296) := ml5 0 _ l1_0 rfl
    have l5_1 : en_ld l5 1 = some (.inl mo) := ml5 1 _ l1_1 rfl
    have l5_2 : en_ld l5 2 = some (.inl me) := ml5 2 _ l1_2 rfl
    have l5_3 : en_ld l5 3 = some (.inl ti) := ml5 3 _ l1_3 rfl
    have l5_4 : en_ld l5 4 = some (.inl ou) := ml5 4 _ l1_4 rfl
    have l5_6 : en_ld l5 6 = some (.inl i) := ml5 6 _ l1_6 rfl
    have l5_7 : en_ld l5 7 = some (.inl 4294967287) := ml5 7 _ hl1 rfl
    refine gx_incS (i := 6) (a := i) (x := 1) rfl (fun _ => rfl) l5_6 (by first | decide | omega) rfl (fun l6 hl6 ml6 => ?_)
    have l6_0 : en_ld l6 0 = some (gx_r 296) := ml6 0 _ l5_0 rfl
    have l6_1 : en_ld l6 1 = some (.inl mo) := ml6 1 _ l5_1 rfl
    have l6_2 : en_ld l6 2 = some (.inl me) := ml6 2 _ l5_2 rfl
    have l6_3 : en_ld l6 3 = some (.inl ti) := ml6 3 _ l5_3 rfl
    have l6_4 : en_ld l6 4 = some (.inl ou) := ml6 4 _ l5_4 rfl
    have l6_7 : en_ld l6 7 = some (.inl 4294967287) := ml6 7 _ l5_7 rfl
    have l6_5 : en_ld l6 5 = some (.inl (h + 1)) := ml6 5 _ hl5 rfl
    refine ex_go (S := (6, l6, [], t102, n, 0)) rfl (fun _ => rfl) rfl ?_
    exact hQ _ t102 g102 (fun c j h9 => e102 c j (by first | decide | omega)) k102 l6_0 l6_1 l6_2 l6_3 l6_4 l6_5 hl6
  · refine gx_ld (i := 6) (d := 0) (v := .inl i) rfl (fun _ => rfl) h6 rfl rfl ?_
    refine gx_ld (i := 0) (d := 2) (v := gx_r 296) rfl (fun _ => rfl) h0 rfl rfl ?_
    refine gxo_get (a := 296) rfl g0 rfl rfl ks rfl ?_
    refine gx_2f (c := .ge) rfl (by first | decide | omega) (by first | decide | omega) (show ¬ (s ≤ i) from by omega) rfl ?_
    refine gx_ld (i := 0) (d := 2) (v := gx_r 296) rfl (fun _ => rfl) h0 rfl rfl ?_
    refine gxo_ref (a := 296) (c := 298) rfl g0 rfl rfl rfl rfl rfl ?_
    refine gx_ld (i := 6) (d := 0) (v := .inl i) rfl (fun _ => rfl) h6 rfl rfl ?_
    refine gx_ag (v := .inl 4294967285) (cb := fun c => Nat.beq c 0) rfl (fun _ => rfl) g0 rfl rfl kz (by first | decide | omega) rfl ?_
    refine gx_sto (i := 7) (d := 0) rfl (fun _ => rfl) rfl rfl (fun l1 hl1 ml1 => ?_)
    have l1_0 : en_ld l1 0 = some (gx_r 296) := ml1 0 _ h0 rfl
    have l1_1 : en_ld l1 1 = some (.inl mo) := ml1 1 _ hm rfl
    have l1_2 : en_ld l1 2 = some (.inl me) := ml1 2 _ ha rfl
    have l1_3 : en_ld l1 3 = some (.inl ti) := ml1 3 _ hb rfl
    have l1_4 : en_ld l1 4 = some (.inl ou) := ml1 4 _ ho4 rfl
    have l1_5 : en_ld l1 5 = some (.inl h) := ml1 5 _ h5 rfl
    have l1_6 : en_ld l1 6 = some (.inl i) := ml1 6 _ h6 rfl
    refine gx_ld (i := 7) (d := 0) (v := .inl 4294967285) rfl (fun _ => rfl) hl1 rfl rfl ?_
    refine ex_go (S := (27, l1, [.inl 4294967295, .inl 4294967285], t0, n, 0)) rfl (fun _ => rfl) rfl ?_
    refine ex_go (S := (64, l1, [], t0, n, 0)) rfl (fun _ => rfl) rfl ?_
    refine gx_ld (i := 7) (d := 0) (v := .inl 4294967285) rfl (fun _ => rfl) hl1 rfl rfl ?_
    refine ex_go (S := (69, l1, [], t0, n, 0)) rfl (fun _ => rfl) rfl ?_
    refine gx_ld (i := 7) (d := 0) (v := .inl 4294967285) rfl (fun _ => rfl) hl1 rfl rfl ?_
    refine ex_go (S := (73, l1, [.inl 4294967288, .inl 4294967285], t0, n, 0)) rfl (fun _ => rfl) rfl ?_
    refine ex_go (S := (118, l1, [], t0, n, 0)) rfl (fun _ => rfl) rfl ?_
    refine gx_ld (i := 5) (d := 0) (v := .inl h) rfl (fun _ => rfl) l1_5 rfl rfl ?_
    refine gx_ld (i := 0) (d := 2) (v := gx_r 296) rfl (fun _ => rfl) l1_0 rfl rfl ?_
    refine gxo_ref (a := 296) (c := 297) rfl g0 rfl rfl rfl rfl rfl ?_
    refine gx_alen (a := 297) (m := 25) rfl g0 rfl rfl rfl ?_
    refine gx_2f (c := .ge) rfl (by first | decide | omega) (by first | decide | omega) (show ¬ (25 ≤ h) from by omega) rfl ?_
    refine gx_ld (i := 0) (d := 2) (v := gx_r 296) rfl (fun _ => rfl) l1_0 rfl rfl ?_
    refine gxo_ref (a := 296) (c := 297) rfl g0 rfl rfl rfl rfl rfl ?_
    refine gx_ld (i := 5) (d := 0) (v := .inl h) rfl (fun _ => rfl) l1_5 rfl rfl ?_
    refine gx_ld (i := 7) (d := 0) (v := .inl 4294967285) rfl (fun _ => rfl) hl1 rfl rfl ?_
    refine gx_ld (i := 2) (d := 0) (v := .inl me) rfl (fun _ => rfl) l1_2 rfl rfl ?_
    refine gx_ld (i := 3) (d := 0) (v := .inl ti) rfl (fun _ => rfl) l1_3 rfl rfl ?_
    refine gx_ld (i := 4) (d := 0) (v := .inl ou) rfl (fun _ => rfl) l1_4 rfl rfl ?_
    have hvp : vpt me ti ou 4294967285 < 4294967296 := vpt_lt hme hti hou (by first | decide | omega)
    refine ex_stat rfl rfl rfl rfl rfl (pc_part d n (t0 := t0) (z := 4294967285) (me := me) (ti := ti) (ou := ou) (by first | decide | omega)) (Nat.le_refl _) rfl ?_
    show en_ex _ _ _ _ (143, l1, [.inl (vpt me ti ou 4294967285), .inl h, gx_r 297], t0, n, 0) _
    refine gx_ap rfl (fun _ => rfl) g0 rfl rfl rfl (show h < 25 from by omega) (gx_run1 (show h < 25 from by omega)) (gx_full (by first | decide | omega)) rfl (fun t102 g102 k102 e102 => ?_)
    have k3 : ai_hv t102 296 2 = some (.inl s) := (e102 296 2 (by first | decide | omega)).trans ks
    have k4 : ai_hv t102 298 i = some (.inl 4294967285) := (e102 298 i (by first | decide | omega)).trans kz
    refine gx_incS (i := 5) (a := h) (x := 1) rfl (fun _ => rfl) l1_5 (by first | decide | omega) rfl (fun l5 hl5 ml5 => ?_)
    have l5_0 : en_ld l5 0 = some (gx_r 296) := ml5 0 _ l1_0 rfl
    have l5_1 : en_ld l5 1 = some (.inl mo) := ml5 1 _ l1_1 rfl
    have l5_2 : en_ld l5 2 = some (.inl me) := ml5 2 _ l1_2 rfl
    have l5_3 : en_ld l5 3 = some (.inl ti) := ml5 3 _ l1_3 rfl
    have l5_4 : en_ld l5 4 = some (.inl ou) := ml5 4 _ l1_4 rfl
    have l5_6 : en_ld l5 6 = some (.inl i) := ml5 6 _ l1_6 rfl
    have l5_7 : en_ld l5 7 = some (.inl 4294967285) := ml5 7 _ hl1 rfl
    refine gx_incS (i := 6) (a := i) (x := 1) rfl (fun _ => rfl) l5_6 (by first | decide | omega) rfl (fun l6 hl6 ml6 => ?_)
    have l6_0 : en_ld l6 0 = some (gx_r 296) := ml6 0 _ l5_0 rfl
    have l6_1 : en_ld l6 1 = some (.inl mo) := ml6 1 _ l5_1 rfl
    have l6_2 : en_ld l6 2 = some (.inl me) := ml6 2 _ l5_2 rfl
    have l6_3 : en_ld l6 3 = some (.inl ti) := ml6 3 _ l5_3 rfl
    have l6_4 : en_ld l6 4 = some (.inl ou) := ml6 4 _ l5_4 rfl
    have l6_7 : en_ld l6 7 = some (.inl 4294967285) := ml6 7 _ l5_7 rfl
    have l6_5 : en_ld l6 5 = some (.inl (h + 1)) := ml6 5 _ hl5 rfl
    refine ex_go (S := (6, l6, [], t102, n, 0)) rfl (fun _ => rfl) rfl ?_
    exact hQ _ t102 g102 (fun c j h9 => e102 c j (by first | decide | omega)) k102 l6_0 l6_1 l6_2 l6_3 l6_4 l6_5 hl6
theorem pv296_not (d n : Nat) {t0 : en_H} {cl : en_L} {mo me ti ou h i s x : Nat} {Q : en_O → Prop} (g0 : ai_HG ah_G t0) (h0 : en_ld cl 0 = some (gx_r 296)) (hm : en_ld cl 1 = some (.inl mo)) (ha : en_ld cl 2 = some (.inl me)) (hb : en_ld cl 3 = some (.inl ti)) (ho4 : en_ld cl 4 = some (.inl ou)) (h5 : en_ld cl 5 = some (.inl h)) (h6 : en_ld cl 6 = some (.inl i)) (ks : ai_hv t0 296 2 = some (.inl s)) (hs : s ≤ 1000) (hi : i < s) (hh : h ≤ 25) (hme : me < 4294967296) (hti : ti < 4294967296) (hou : ou < 4294967296) (kz : ai_hv t0 298 i = some (.inl 4294967295)) (h1 : 1 ≤ h) (kx : ai_hv t0 297 (h - 1) = some (.inl x)) (hx : x < 4294967296) (hQ : ∀ cl' t', ai_HG ah_G t' → (∀ c j, ¬ (c = 297 ∧ j = h - 1) → ai_hv t' c j = ai_hv t0 c j) → ai_hv t' 297 (h - 1) = some (.inl (vnot x)) → en_ld cl' 0 = some (gx_r 296) → en_ld cl' 1 = some (.inl mo) → en_ld cl' 2 = some (.inl me) → en_ld cl' 3 = some (.inl ti) → en_ld cl' 4 = some (.inl ou) → en_ld cl' 5 = some (.inl (h)) → en_ld cl' 6 = some (.inl (i + 1)) → en_ex none (en_u (d + 1)) (en_code 210) (fun _ => false) (6, cl', [], t', n, 0) Q) : en_ex none (en_u (d + 1)) (en_code 210) (fun _ => false) (6, cl, [], t0, n, 0) Q := by
  refine gx_ld (i := 6) (d := 0) (v := .inl i) rfl (fun _ => rfl) h6 rfl rfl ?_
  refine gx_ld (i := 0) (d := 2) (v := gx_r 296) rfl (fun _ => rfl) h0 rfl rfl ?_
  refine gxo_get (a := 296) rfl g0 rfl rfl ks rfl ?_
  refine gx_2f (c := .ge) rfl (by first | decide | omega) (by first | decide | omega) (show ¬ (s ≤ i) from by omega) rfl ?_
  refine gx_ld (i := 0) (d := 2) (v := gx_r 296) rfl (fun _ => rfl) h0 rfl rfl ?_
  refine gxo_ref (a := 296) (c := 298) rfl g0 rfl rfl rfl rfl rfl ?_
  refine gx_ld (i := 6) (d := 0) (v := .inl i) rfl (fun _ => rfl) h6 rfl rfl ?_
  refine gx_ag (v := .inl 4294967295) (cb := fun c => Nat.beq c 0) rfl (fun _ => rfl) g0 rfl rfl kz (by first | decide | omega) rfl ?_
  refine gx_sto (i := 7) (d := 0) rfl (fun _ => rfl) rfl rfl (fun l1 hl1 ml1 => ?_)
  have l1_0 : en_ld l1 0 = some (gx_r 296) := ml1 0 _ h0 rfl
  have l1_1 : en_ld l1 1 = some (.inl mo) := ml1 1 _ hm rfl
  have l1_2 : en_ld l1 2 = some (.inl me) := ml1 2 _ ha rfl
  have l1_3 : en_ld l1 3 = some (.inl ti) := ml1 3 _ hb rfl
  have l1_4 : en_ld l1 4 = some (.inl ou) := ml1 4 _ ho4 rfl
  have l1_5 : en_ld l1 5 = some (.inl h) := ml1 5 _ h5 rfl
  have l1_6 : en_ld l1 6 = some (.inl i) := ml1 6 _ h6 rfl
  refine gx_ld (i := 7) (d := 0) (v := .inl 4294967295) rfl (fun _ => rfl) hl1 rfl rfl ?_
  refine ex_go (S := (27, l1, [.inl 4294967295, .inl 4294967295], t0, n, 0)) rfl (fun _ => rfl) rfl ?_
  refine ex_go (S := (30, l1, [], t0, n, 0)) rfl (fun _ => rfl) rfl ?_
  refine gx_ld (i := 5) (d := 0) (v := .inl h) rfl (fun _ => rfl) l1_5 rfl rfl ?_
  refine gx_1f (c := .le) rfl (by first | decide | omega) (show ¬ (h ≤ 0) from by omega) rfl ?_
  refine gx_ld (i := 0) (d := 2) (v := gx_r 296) rfl (fun _ => rfl) l1_0 rfl rfl ?_
  refine gxo_ref (a := 296) (c := 297) rfl g0 rfl rfl rfl rfl rfl ?_
  refine gx_ld (i := 5) (d := 0) (v := .inl h) rfl (fun _ => rfl) l1_5 rfl rfl ?_
  refine ex_go (S := (42, l1, [.inl 1, .inl h, gx_r 297], t0, n, 0)) rfl (fun _ => rfl) rfl ?_
  refine gx_isub rfl (by first | decide | omega) (by first | decide | omega) rfl ?_
  refine gx_ld (i := 0) (d := 2) (v := gx_r 296) rfl (fun _ => rfl) l1_0 rfl rfl ?_
  refine gxo_ref (a := 296) (c := 297) rfl g0 rfl rfl rfl rfl rfl ?_
  refine gx_ld (i := 5) (d := 0) (v := .inl h) rfl (fun _ => rfl) l1_5 rfl rfl ?_
  refine ex_go (S := (50, l1, [.inl 1, .inl h, gx_r 297, .inl (h - 1), gx_r 297], t0, n, 0)) rfl (fun _ => rfl) rfl ?_
  refine gx_isub rfl (by first | decide | omega) (by first | decide | omega) rfl ?_
  refine gx_ag (v := .inl x) (cb := fun c => Nat.beq c 0) rfl (fun _ => rfl) g0 rfl rfl kx (by first | decide | omega) rfl ?_
  refine gx_1r (c := .ne) rfl (by first | decide | omega) rfl rfl (fun hr2 => ?_) (fun hr2 => ?_)
  · show en_ex _ _ _ _ (59, l1, [.inl (h - 1), gx_r 297], t0, n, 0) _
    refine ex_go (S := (60, l1, [.inl 0, .inl (h - 1), gx_r 297], t0, n, 0)) rfl (fun _ => rfl) rfl ?_
    refine gx_ap rfl (fun _ => rfl) g0 rfl rfl rfl (show h - 1 < 25 from by omega) (gx_run1 (show h - 1 < 25 from by omega)) (gx_full (by first | decide | omega)) rfl (fun t103 g103 k103 e103 => ?_)
    have k4 : ai_hv t103 296 2 = some (.inl s) := (e103 296 2 (by first | decide | omega)).trans ks
    have k5 : ai_hv t103 298 i = some (.inl 4294967295) := (e103 298 i (by first | decide | omega)).trans kz
    refine ex_go (S := (147, l1, [], t103, n, 0)) rfl (fun _ => rfl) rfl ?_
    refine gx_incS (i := 6) (a := i) (x := 1) rfl (fun _ => rfl) l1_6 (by first | decide | omega) rfl (fun l6 hl6 ml6 => ?_)
    have l6_0 : en_ld l6 0 = some (gx_r 296) := ml6 0 _ l1_0 rfl
    have l6_1 : en_ld l6 1 = some (.inl mo) := ml6 1 _ l1_1 rfl
    have l6_2 : en_ld l6 2 = some (.inl me) := ml6 2 _ l1_2 rfl
    have l6_3 : en_ld l6 3 = some (.inl ti) := ml6 3 _ l1_3 rfl
    have l6_4 : en_ld l6 4 = some (.inl ou) := ml6 4 _ l1_4 rfl
    have l6_5 : en_ld l6 5 = some (.inl h) := ml6 5 _ l1_5 rfl
    have l6_7 : en_ld l6 7 = some (.inl 4294967295) := ml6 7 _ hl1 rfl
    refine ex_go (S := (6, l6, [], t103, n, 0)) rfl (fun _ => rfl) rfl ?_
    have hv9 : vnot x = 0 := cif_t hr2
    exact hQ _ t103 g103 (fun c j h9 => e103 c j (by first | decide | omega)) (by rw [hv9]; exact k103) l6_0 l6_1 l6_2 l6_3 l6_4 l6_5 hl6
  · show en_ex _ _ _ _ (55, l1, [.inl (h - 1), gx_r 297], t0, n, 0) _
    refine ex_go (S := (56, l1, [.inl 1, .inl (h - 1), gx_r 297], t0, n, 0)) rfl (fun _ => rfl) rfl ?_
    refine ex_go (S := (60, l1, [.inl 1, .inl (h - 1), gx_r 297], t0, n, 0)) rfl (fun _ => rfl) rfl ?_
    refine gx_ap rfl (fun _ => rfl) g0 rfl rfl rfl (show h - 1 < 25 from by omega) (gx_run1 (show h - 1 < 25 from by omega)) (gx_full (by first | decide | omega)) rfl (fun t107 g107 k107 e107 => ?_)
    have k8 : ai_hv t107 296 2 = some (.inl s) := (e107 296 2 (by first | decide | omega)).trans ks
    have k9 : ai_hv t107 298 i = some (.inl 4294967295) := (e107 298 i (by first | decide | omega)).trans kz
    refine ex_go (S := (147, l1, [], t107, n, 0)) rfl (fun _ => rfl) rfl ?_
    refine gx_incS (i := 6) (a := i) (x := 1) rfl (fun _ => rfl) l1_6 (by first | decide | omega) rfl (fun l10 hl10 ml10 => ?_)
    have l10_0 : en_ld l10 0 = some (gx_r 296) := ml10 0 _ l1_0 rfl
    have l10_1 : en_ld l10 1 = some (.inl mo) := ml10 1 _ l1_1 rfl
    have l10_2 : en_ld l10 2 = some (.inl me) := ml10 2 _ l1_2 rfl
    have l10_3 : en_ld l10 3 = some (.inl ti) := ml10 3 _ l1_3 rfl
    have l10_4 : en_ld l10 4 = some (.inl ou) := ml10 4 _ l1_4 rfl
    have l10_5 : en_ld l10 5 = some (.inl h) := ml10 5 _ l1_5 rfl
    have l10_7 : en_ld l10 7 = some (.inl 4294967295) := ml10 7 _ hl1 rfl
    refine ex_go (S := (6, l10, [], t107, n, 0)) rfl (fun _ => rfl) rfl ?_
    have hv9 : vnot x = 1 := cif_f hr2
    exact hQ _ t107 g107 (fun c j h9 => e107 c j (by first | decide | omega)) (by rw [hv9]; exact k107) l10_0 l10_1 l10_2 l10_3 l10_4 l10_5 hl10
theorem pv296_bin (d n : Nat) {t0 : en_H} {cl : en_L} {mo me ti ou h i s x y z : Nat} {Q : en_O → Prop} (g0 : ai_HG ah_G t0) (h0 : en_ld cl 0 = some (gx_r 296)) (hm : en_ld cl 1 = some (.inl mo)) (ha : en_ld cl 2 = some (.inl me)) (hb : en_ld cl 3 = some (.inl ti)) (ho4 : en_ld cl 4 = some (.inl ou)) (h5 : en_ld cl 5 = some (.inl h)) (h6 : en_ld cl 6 = some (.inl i)) (ks : ai_hv t0 296 2 = some (.inl s)) (hs : s ≤ 1000) (hi : i < s) (hh : h ≤ 25) (hme : me < 4294967296) (hti : ti < 4294967296) (hou : ou < 4294967296) (hz : z = 4294967290 ∨ z = 4294967289 ∨ z = 4294967288 ∨ z = 4294967292 ∨ z = 4294967291 ∨ z = 4294967294 ∨ z = 4294967293) (kz : ai_hv t0 298 i = some (.inl z)) (h1 : 2 ≤ h) (ky : ai_hv t0 297 (h - 1) = some (.inl y)) (hy : y < 4294967296) (kx : ai_hv t0 297 (h - 1 - 1) = some (.inl x)) (hx : x < 4294967296) (hQ : ∀ cl' t', ai_HG ah_G t' → (∀ c j, ¬ (c = 297 ∧ j = h - 1 - 1) → ai_hv t' c j = ai_hv t0 c j) → ai_hv t' 297 (h - 1 - 1) = some (.inl (vb (opm z) x y)) → en_ld cl' 0 = some (gx_r 296) → en_ld cl' 1 = some (.inl mo) → en_ld cl' 2 = some (.inl me) → en_ld cl' 3 = some (.inl ti) → en_ld cl' 4 = some (.inl ou) → en_ld cl' 5 = some (.inl (h - 1)) → en_ld cl' 6 = some (.inl (i + 1)) → en_ex none (en_u (d + 1)) (en_code 210) (fun _ => false) (6, cl', [], t', n, 0) Q) : en_ex none (en_u (d + 1)) (en_code 210) (fun _ => false) (6, cl, [], t0, n, 0) Q := by
  rcases hz with rfl | rfl | rfl | rfl | rfl | rfl | rfl
  · refine gx_ld (i := 6) (d := 0) (v := .inl i) rfl (fun _ => rfl) h6 rfl rfl ?_
    refine gx_ld (i := 0) (d := 2) (v := gx_r 296) rfl (fun _ => rfl) h0 rfl rfl ?_
    refine gxo_get (a := 296) rfl g0 rfl rfl ks rfl ?_
    refine gx_2f (c := .ge) rfl (by first | decide | omega) (by first | decide | omega) (show ¬ (s ≤ i) from by omega) rfl ?_
    refine gx_ld (i := 0) (d := 2) (v := gx_r 296) rfl (fun _ => rfl) h0 rfl rfl ?_
    refine gxo_ref (a := 296) (c := 298) rfl g0 rfl rfl rfl rfl rfl ?_
    refine gx_ld (i := 6) (d := 0) (v := .inl i) rfl (fun _ => rfl) h6 rfl rfl ?_
    refine gx_ag (v := .inl 4294967290) (cb := fun c => Nat.beq c 0) rfl (fun _ => rfl) g0 rfl rfl kz (by first | decide | omega) rfl ?_
    refine gx_sto (i := 7) (d := 0) rfl (fun _ => rfl) rfl rfl (fun l1 hl1 ml1 => ?_)
    have l1_0 : en_ld l1 0 = some (gx_r 296) := ml1 0 _ h0 rfl
    have l1_1 : en_ld l1 1 = some (.inl mo) := ml1 1 _ hm rfl
    have l1_2 : en_ld l1 2 = some (.inl me) := ml1 2 _ ha rfl
    have l1_3 : en_ld l1 3 = some (.inl ti) := ml1 3 _ hb rfl
    have l1_4 : en_ld l1 4 = some (.inl ou) := ml1 4 _ ho4 rfl
    have l1_5 : en_ld l1 5 = some (.inl h) := ml1 5 _ h5 rfl
    have l1_6 : en_ld l1 6 = some (.inl i) := ml1 6 _ h6 rfl
    refine gx_ld (i := 7) (d := 0) (v := .inl 4294967290) rfl (fun _ => rfl) hl1 rfl rfl ?_
    refine ex_go (S := (27, l1, [.inl 4294967295, .inl 4294967290], t0, n, 0)) rfl (fun _ => rfl) rfl ?_
    refine ex_go (S := (64, l1, [], t0, n, 0)) rfl (fun _ => rfl) rfl ?_
    refine gx_ld (i := 7) (d := 0) (v := .inl 4294967290) rfl (fun _ => rfl) hl1 rfl rfl ?_
    refine ex_go (S := (69, l1, [], t0, n, 0)) rfl (fun _ => rfl) rfl ?_
    refine gx_ld (i := 7) (d := 0) (v := .inl 4294967290) rfl (fun _ => rfl) hl1 rfl rfl ?_
    refine ex_go (S := (73, l1, [.inl 4294967288, .inl 4294967290], t0, n, 0)) rfl (fun _ => rfl) rfl ?_
    refine ex_go (S := (76, l1, [], t0, n, 0)) rfl (fun _ => rfl) rfl ?_
    refine gx_ld (i := 5) (d := 0) (v := .inl h) rfl (fun _ => rfl) l1_5 rfl rfl ?_
    refine ex_go (S := (79, l1, [.inl 1, .inl h], t0, n, 0)) rfl (fun _ => rfl) rfl ?_
    refine gx_2f (c := .le) rfl (by first | decide | omega) (by first | decide | omega) (show ¬ (h ≤ 1) from by omega) rfl ?_
    refine gx_decS (i := 5) (a := h) rfl (fun _ => rfl) l1_5 (by first | decide | omega) (by first | decide | omega) rfl (fun l2 hl2 ml2 => ?_)
    have l2_0 : en_ld l2 0 = some (gx_r 296) := ml2 0 _ l1_0 rfl
    have l2_1 : en_ld l2 1 = some (.inl mo) := ml2 1 _ l1_1 rfl
    have l2_2 : en_ld l2 2 = some (.inl me) := ml2 2 _ l1_2 rfl
    have l2_3 : en_ld l2 3 = some (.inl ti) := ml2 3 _ l1_3 rfl
    have l2_4 : en_ld l2 4 = some (.inl ou) := ml2 4 _ l1_4 rfl
    have l2_6 : en_ld l2 6 = some (.inl i) := ml2 6 _ l1_6 rfl
    have l2_7 : en_ld l2 7 = some (.inl 4294967290) := ml2 7 _ hl1 rfl
    refine gx_ld (i := 0) (d := 2) (v := gx_r 296) rfl (fun _ => rfl) l2_0 rfl rfl ?_
    refine gxo_ref (a := 296) (c := 297) rfl g0 rfl rfl rfl rfl rfl ?_
    refine gx_ld (i := 5) (d := 0) (v := .inl (h - 1)) rfl (fun _ => rfl) hl2 rfl rfl ?_
    refine ex_go (S := (92, l2, [.inl 1, .inl (h - 1), gx_r 297], t0, n, 0)) rfl (fun _ => rfl) rfl ?_
    refine gx_isub rfl (by first | decide | omega) (by first | decide | omega) rfl ?_
    refine gx_ld (i := 7) (d := 0) (v := .inl 4294967290) rfl (fun _ => rfl) l2_7 rfl rfl ?_
    refine gx_ld (i := 0) (d := 2) (v := gx_r 296) rfl (fun _ => rfl) l2_0 rfl rfl ?_
    refine gxo_ref (a := 296) (c := 297) rfl g0 rfl rfl rfl rfl rfl ?_
    refine gx_ld (i := 5) (d := 0) (v := .inl (h - 1)) rfl (fun _ => rfl) hl2 rfl rfl ?_
    refine ex_go (S := (102, l2, [.inl 1, .inl (h - 1), gx_r 297, .inl 4294967290, .inl ((h - 1) - 1), gx_r 297], t0, n, 0)) rfl (fun _ => rfl) rfl ?_
    refine gx_isub rfl (by first | decide | omega) (by first | decide | omega) rfl ?_
    refine gx_ag (v := .inl x) (cb := fun c => Nat.beq c 0) rfl (fun _ => rfl) g0 rfl rfl kx (by first | decide | omega) rfl ?_
    refine gx_ld (i := 0) (d := 2) (v := gx_r 296) rfl (fun _ => rfl) l2_0 rfl rfl ?_
    refine gxo_ref (a := 296) (c := 297) rfl g0 rfl rfl rfl rfl rfl ?_
    refine gx_ld (i := 5) (d := 0) (v := .inl (h - 1)) rfl (fun _ => rfl) hl2 rfl rfl ?_
    refine gx_ag (v := .inl y) (cb := fun c => Nat.beq c 0) rfl (fun _ => rfl) g0 rfl rfl ky (by first | decide | omega) rfl ?_
    have hvb := vb_lt (o := opm 4294967290) (a := x) (b := y)
    refine ex_stat rfl rfl rfl rfl rfl (pc_joined d n (t0 := t0) (z := 4294967290) (x := x) (y := y) (by first | decide | omega) (by first | decide | omega) (by first | decide | omega)) (Nat.le_refl _) rfl ?_
    show en_ex _ _ _ _ (114, l2, [.inl (vb (opm 4294967290) x y), .inl ((h - 1) - 1), gx_r 297], t0, n, 0) _
    refine gx_ap rfl (fun _ => rfl) g0 rfl rfl rfl (show (h - 1) - 1 < 25 from by omega) (gx_run1 (show (h - 1) - 1 < 25 from by omega)) (gx_full (by first | decide | omega)) rfl (fun t103 g103 k103 e103 => ?_)
    have k4 : ai_hv t103 297 (h - 1) = some (.inl y) := (e103 297 (h - 1) (by first | decide | omega)).trans ky
    have k5 : ai_hv t103 296 2 = some (.inl s) := (e103 296 2 (by first | decide | omega)).trans ks
    have k6 : ai_hv t103 298 i = some (.inl 4294967290) := (e103 298 i (by first | decide | omega)).trans kz
    refine ex_go (S := (147, l2, [], t103, n, 0)) rfl (fun _ => rfl) rfl ?_
    refine gx_incS (i := 6) (a := i) (x := 1) rfl (fun _ => rfl) l2_6 (by first | decide | omega) rfl (fun l7 hl7 ml7 => ?_)
    have l7_0 : en_ld l7 0 = some (gx_r 296) := ml7 0 _ l2_0 rfl
    have l7_1 : en_ld l7 1 = some (.inl mo) := ml7 1 _ l2_1 rfl
    have l7_2 : en_ld l7 2 = some (.inl me) := ml7 2 _ l2_2 rfl
    have l7_3 : en_ld l7 3 = some (.inl ti) := ml7 3 _ l2_3 rfl
    have l7_4 : en_ld l7 4 = some (.inl ou) := ml7 4 _ l2_4 rfl
    have l7_7 : en_ld l7 7 = some (.inl 4294967290) := ml7 7 _ l2_7 rfl
    have l7_5 : en_ld l7 5 = some (.inl (h - 1)) := ml7 5 _ hl2 rfl
    refine ex_go (S := (6, l7, [], t103, n, 0)) rfl (fun _ => rfl) rfl ?_
    exact hQ _ t103 g103 (fun c j h9 => e103 c j (by first | decide | omega)) k103 l7_0 l7_1 l7_2 l7_3 l7_4 l7_5 hl7
  · refine gx_ld (i := 6) (d := 0) (v := .inl i) rfl (fun _ => rfl) h6 rfl rfl ?_
    refine gx_ld (i := 0) (d := 2) (v := gx_r 296) rfl (fun _ => rfl) h0 rfl rfl ?_
    refine gxo_get (a := 296) rfl g0 rfl rfl ks rfl ?_
    refine gx_2f (c := .ge) rfl (by first | decide | omega) (by first | decide | omega) (show ¬ (s ≤ i) from by omega) rfl ?_
    refine gx_ld (i := 0) (d := 2) (v := gx_r 296) rfl (fun _ => rfl) h0 rfl rfl ?_
    refine gxo_ref (a := 296) (c := 298) rfl g0 rfl rfl rfl rfl rfl ?_
    refine gx_ld (i := 6) (d := 0) (v := .inl i) rfl (fun _ => rfl) h6 rfl rfl ?_
    refine gx_ag (v := .inl 4294967289) (cb := fun c => Nat.beq c 0) rfl (fun _ => rfl) g0 rfl rfl kz (by first | decide | omega) rfl ?_
    refine gx_sto (i := 7) (d := 0) rfl (fun _ => rfl) rfl rfl (fun l1 hl1 ml1 => ?_)
    have l1_0 : en_ld l1 0 = some (gx_r 296) := ml1 0 _ h0 rfl
    have l1_1 : en_ld l1 1 = some (.inl mo) := ml1 1 _ hm rfl
    have l1_2 : en_ld l1 2 = some (.inl me) := ml1 2 _ ha rfl
    have l1_3 : en_ld l1 3 = some (.inl ti) := ml1 3 _ hb rfl
    have l1_4 : en_ld l1 4 = some (.inl ou) := ml1 4 _ ho4 rfl
    have l1_5 : en_ld l1 5 = some (.inl h) := ml1 5 _ h5 rfl
    have l1_6 : en_ld l1 6 = some (.inl i) := ml1 6 _ h6 rfl
    refine gx_ld (i := 7) (d := 0) (v := .inl 4294967289) rfl (fun _ => rfl) hl1 rfl rfl ?_
    refine ex_go (S := (27, l1, [.inl 4294967295, .inl 4294967289], t0, n, 0)) rfl (fun _ => rfl) rfl ?_
    refine ex_go (S := (64, l1, [], t0, n, 0)) rfl (fun _ => rfl) rfl ?_
    refine gx_ld (i := 7) (d := 0) (v := .inl 4294967289) rfl (fun _ => rfl) hl1 rfl rfl ?_
    refine ex_go (S := (69, l1, [], t0, n, 0)) rfl (fun _ => rfl) rfl ?_
    refine gx_ld (i := 7) (d := 0) (v := .inl 4294967289) rfl (fun _ => rfl) hl1 rfl rfl ?_
    refine ex_go (S := (73, l1, [.inl 4294967288, .inl 4294967289], t0, n, 0)) rfl (fun _ => rfl) rfl ?_
    refine ex_go (S := (76, l1, [], t0, n, 0)) rfl (fun _ => rfl) rfl ?_
    refine gx_ld (i := 5) (d := 0) (v := .inl h) rfl (fun _ => rfl) l1_5 rfl rfl ?_
    refine ex_go (S := (79, l1, [.inl 1, .inl h], t0, n, 0)) rfl (fun _ => rfl) rfl ?_
    refine gx_2f (c := .le) rfl (by first | decide | omega) (by first | decide | omega) (show ¬ (h ≤ 1) from by omega) rfl ?_
    refine gx_decS (i := 5) (a := h) rfl (fun _ => rfl) l1_5 (by first | decide | omega) (by first | decide | omega) rfl (fun l2 hl2 ml2 => ?_)
    have l2_0 : en_ld l2 0 = some (gx_r 296) := ml2 0 _ l1_0 rfl
    have l2_1 : en_ld l2 1 = some (.inl mo) := ml2 1 _ l1_1 rfl
    have l2_2 : en_ld l2 2 = some (.inl me) := ml2 2 _ l1_2 rfl
    have l2_3 : en_ld l2 3 = some (.inl ti) := ml2 3 _ l1_3 rfl
    have l2_4 : en_ld l2 4 = some (.inl ou) := ml2 4 _ l1_4 rfl
    have l2_6 : en_ld l2 6 = some (.inl i) := ml2 6 _ l1_6 rfl
    have l2_7 : en_ld l2 7 = some (.inl 4294967289) := ml2 7 _ hl1 rfl
    refine gx_ld (i := 0) (d := 2) (v := gx_r 296) rfl (fun _ => rfl) l2_0 rfl rfl ?_
    refine gxo_ref (a := 296) (c := 297) rfl g0 rfl rfl rfl rfl rfl ?_
    refine gx_ld (i := 5) (d := 0) (v := .inl (h - 1)) rfl (fun _ => rfl) hl2 rfl rfl ?_
    refine ex_go (S := (92, l2, [.inl 1, .inl (h - 1), gx_r 297], t0, n, 0)) rfl (fun _ => rfl) rfl ?_
    refine gx_isub rfl (by first | decide | omega) (by first | decide | omega) rfl ?_
    refine gx_ld (i := 7) (d := 0) (v := .inl 4294967289) rfl (fun _ => rfl) l2_7 rfl rfl ?_
    refine gx_ld (i := 0) (d := 2) (v := gx_r 296) rfl (fun _ => rfl) l2_0 rfl rfl ?_
    refine gxo_ref (a := 296) (c := 297) rfl g0 rfl rfl rfl rfl rfl ?_
    refine gx_ld (i := 5) (d := 0) (v := .inl (h - 1)) rfl (fun _ => rfl) hl2 rfl rfl ?_
    refine ex_go (S := (102, l2, [.inl 1, .inl (h - 1), gx_r 297, .inl 4294967289, .inl ((h - 1) - 1), gx_r 297], t0, n, 0)) rfl (fun _ => rfl) rfl ?_
    refine gx_isub rfl (by first | decide | omega) (by first | decide | omega) rfl ?_
    refine gx_ag (v := .inl x) (cb := fun c => Nat.beq c 0) rfl (fun _ => rfl) g0 rfl rfl kx (by first | decide | omega) rfl ?_
    refine gx_ld (i := 0) (d := 2) (v := gx_r 296) rfl (fun _ => rfl) l2_0 rfl rfl ?_
    refine gxo_ref (a := 296) (c := 297) rfl g0 rfl rfl rfl rfl rfl ?_
    refine gx_ld (i := 5) (d := 0) (v := .inl (h - 1)) rfl (fun _ => rfl) hl2 rfl rfl ?_
    refine gx_ag (v := .inl y) (cb := fun c => Nat.beq c 0) rfl (fun _ => rfl) g0 rfl rfl ky (by first | decide | omega) rfl ?_
    have hvb := vb_lt (o := opm 4294967289) (a := x) (b := y)
    refine ex_stat rfl rfl rfl rfl rfl (pc_joined d n (t0 := t0) (z := 4294967289) (x := x) (y := y) (by first | decide | omega) (by first | decide | omega) (by first | decide | omega)) (Nat.le_refl _) rfl ?_
    show en_ex _ _ _ _ (114, l2, [.inl (vb (opm 4294967289) x y), .inl ((h - 1) - 1), gx_r 297], t0, n, 0) _
    refine gx_ap rfl (fun _ => rfl) g0 rfl rfl rfl (show (h - 1) - 1 < 25 from by omega) (gx_run1 (show (h - 1) - 1 < 25 from by omega)) (gx_full (by first | decide | omega)) rfl (fun t103 g103 k103 e103 => ?_)
    have k4 : ai_hv t103 297 (h - 1) = some (.inl y) := (e103 297 (h - 1) (by first | decide | omega)).trans ky
    have k5 : ai_hv t103 296 2 = some (.inl s) := (e103 296 2 (by first | decide | omega)).trans ks
    have k6 : ai_hv t103 298 i = some (.inl 4294967289) := (e103 298 i (by first | decide | omega)).trans kz
    refine ex_go (S := (147, l2, [], t103, n, 0)) rfl (fun _ => rfl) rfl ?_
    refine gx_incS (i := 6) (a := i) (x := 1) rfl (fun _ => rfl) l2_6 (by first | decide | omega) rfl (fun l7 hl7 ml7 => ?_)
    have l7_0 : en_ld l7 0 = some (gx_r 296) := ml7 0 _ l2_0 rfl
    have l7_1 : en_ld l7 1 = some (.inl mo) := ml7 1 _ l2_1 rfl
    have l7_2 : en_ld l7 2 = some (.inl me) := ml7 2 _ l2_2 rfl
    have l7_3 : en_ld l7 3 = some (.inl ti) := ml7 3 _ l2_3 rfl
    have l7_4 : en_ld l7 4 = some (.inl ou) := ml7 4 _ l2_4 rfl
    have l7_7 : en_ld l7 7 = some (.inl 4294967289) := ml7 7 _ l2_7 rfl
    have l7_5 : en_ld l7 5 = some (.inl (h - 1)) := ml7 5 _ hl2 rfl
    refine ex_go (S := (6, l7, [], t103, n, 0)) rfl (fun _ => rfl) rfl ?_
    exact hQ _ t103 g103 (fun c j h9 => e103 c j (by first | decide | omega)) k103 l7_0 l7_1 l7_2 l7_3 l7_4 l7_5 hl7
  · refine gx_ld (i := 6) (d := 0) (v := .inl i) rfl (fun _ => rfl) h6 rfl rfl ?_
    refine gx_ld (i := 0) (d := 2) (v := gx_r 296) rfl (fun _ => rfl) h0 rfl rfl ?_
    refine gxo_get (a := 296) rfl g0 rfl rfl ks rfl ?_
    refine gx_2f (c := .ge) rfl (by first | decide | omega) (by first | decide | omega) (show ¬ (s ≤ i) from by omega) rfl ?_
    refine gx_ld (i := 0) (d := 2) (v := gx_r 296) rfl (fun _ => rfl) h0 rfl rfl ?_
    refine gxo_ref (a := 296) (c := 298) rfl g0 rfl rfl rfl rfl rfl ?_
    refine gx_ld (i := 6) (d := 0) (v := .inl i) rfl (fun _ => rfl) h6 rfl rfl ?_
    refine gx_ag (v := .inl 4294967288) (cb := fun c => Nat.beq c 0) rfl (fun _ => rfl) g0 rfl rfl kz (by first | decide | omega) rfl ?_
    refine gx_sto (i := 7) (d := 0) rfl (fun _ => rfl) rfl rfl (fun l1 hl1 ml1 => ?_)
    have l1_0 : en_ld l1 0 = some (gx_r 296) := ml1 0 _ h0 rfl
    have l1_1 : en_ld l1 1 = some (.inl mo) := ml1 1 _ hm rfl
    have l1_2 : en_ld l1 2 = some (.inl me) := ml1 2 _ ha rfl
    have l1_3 : en_ld l1 3 = some (.inl ti) := ml1 3 _ hb rfl
    have l1_4 : en_ld l1 4 = some (.inl ou) := ml1 4 _ ho4 rfl
    have l1_5 : en_ld l1 5 = some (.inl h) := ml1 5 _ h5 rfl
    have l1_6 : en_ld l1 6 = some (.inl i) := ml1 6 _ h6 rfl
    refine gx_ld (i := 7) (d := 0) (v := .inl 4294967288) rfl (fun _ => rfl) hl1 rfl rfl ?_
    refine ex_go (S := (27, l1, [.inl 4294967295, .inl 4294967288], t0, n, 0)) rfl (fun _ => rfl) rfl ?_
    refine ex_go (S := (64, l1, [], t0, n, 0)) rfl (fun _ => rfl) rfl ?_
    refine gx_ld (i := 7) (d := 0) (v := .inl 4294967288) rfl (fun _ => rfl) hl1 rfl rfl ?_
    refine ex_go (S := (69, l1, [], t0, n, 0)) rfl (fun _ => rfl) rfl ?_
    refine gx_ld (i := 7) (d := 0) (v := .inl 4294967288) rfl (fun _ => rfl) hl1 rfl rfl ?_
    refine ex_go (S := (73, l1, [.inl 4294967288, .inl 4294967288], t0, n, 0)) rfl (fun _ => rfl) rfl ?_
    refine ex_go (S := (76, l1, [], t0, n, 0)) rfl (fun _ => rfl) rfl ?_
    refine gx_ld (i := 5) (d := 0) (v := .inl h) rfl (fun _ => rfl) l1_5 rfl rfl ?_
    refine ex_go (S := (79, l1, [.inl 1, .inl h], t0, n, 0)) rfl (fun _ => rfl) rfl ?_
    refine gx_2f (c := .le) rfl (by first | decide | omega) (by first | decide | omega) (show ¬ (h ≤ 1) from by omega) rfl ?_
    refine gx_decS (i := 5) (a := h) rfl (fun _ => rfl) l1_5 (by first | decide | omega) (by first | decide | omega) rfl (fun l2 hl2 ml2 => ?_)
    have l2_0 : en_ld l2 0 = some (gx_r 296) := ml2 0 _ l1_0 rfl
    have l2_1 : en_ld l2 1 = some (.inl mo) := ml2 1 _ l1_1 rfl
    have l2_2 : en_ld l2 2 = some (.inl me) := ml2 2 _ l1_2 rfl
    have l2_3 : en_ld l2 3 = some (.inl ti) := ml2 3 _ l1_3 rfl
    have l2_4 : en_ld l2 4 = some (.inl ou) := ml2 4 _ l1_4 rfl
    have l2_6 : en_ld l2 6 = some (.inl i) := ml2 6 _ l1_6 rfl
    have l2_7 : en_ld l2 7 = some (.inl 4294967288) := ml2 7 _ hl1 rfl
    refine gx_ld (i := 0) (d := 2) (v := gx_r 296) rfl (fun _ => rfl) l2_0 rfl rfl ?_
    refine gxo_ref (a := 296) (c := 297) rfl g0 rfl rfl rfl rfl rfl ?_
    refine gx_ld (i := 5) (d := 0) (v := .inl (h - 1)) rfl (fun _ => rfl) hl2 rfl rfl ?_
    refine ex_go (S := (92, l2, [.inl 1, .inl (h - 1), gx_r 297], t0, n, 0)) rfl (fun _ => rfl) rfl ?_
    refine gx_isub rfl (by first | decide | omega) (by first | decide | omega) rfl ?_
    refine gx_ld (i := 7) (d := 0) (v := .inl 4294967288) rfl (fun _ => rfl) l2_7 rfl rfl ?_
    refine gx_ld (i := 0) (d := 2) (v := gx_r 296) rfl (fun _ => rfl) l2_0 rfl rfl ?_
    refine gxo_ref (a := 296) (c := 297) rfl g0 rfl rfl rfl rfl rfl ?_
    refine gx_ld (i := 5) (d := 0) (v := .inl (h - 1)) rfl (fun _ => rfl) hl2 rfl rfl ?_
    refine ex_go (S := (102, l2, [.inl 1, .inl (h - 1), gx_r 297, .inl 4294967288, .inl ((h - 1) - 1), gx_r 297], t0, n, 0)) rfl (fun _ => rfl) rfl ?_
    refine gx_isub rfl (by first | decide | omega) (by first | decide | omega) rfl ?_
    refine gx_ag (v := .inl x) (cb := fun c => Nat.beq c 0) rfl (fun _ => rfl) g0 rfl rfl kx (by first | decide | omega) rfl ?_
    refine gx_ld (i := 0) (d := 2) (v := gx_r 296) rfl (fun _ => rfl) l2_0 rfl rfl ?_
    refine gxo_ref (a := 296) (c := 297) rfl g0 rfl rfl rfl rfl rfl ?_
    refine gx_ld (i := 5) (d := 0) (v := .inl (h - 1)) rfl (fun _ => rfl) hl2 rfl rfl ?_
    refine gx_ag (v := .inl y) (cb := fun c => Nat.beq c 0) rfl (fun _ => rfl) g0 rfl rfl ky (by first | decide | omega) rfl ?_
    have hvb := vb_lt (o := opm 4294967288) (a := x) (b := y)
    refine ex_stat rfl rfl rfl rfl rfl (pc_joined d n (t0 := t0) (z := 4294967288) (x := x) (y := y) (by first | decide | omega) (by first | decide | omega) (by first | decide | omega)) (Nat.le_refl _) rfl ?_
    show en_ex _ _ _ _ (114, l2, [.inl (vb (opm 4294967288) x y), .inl ((h - 1) - 1), gx_r 297], t0, n, 0) _
    refine gx_ap rfl (fun _ => rfl) g0 rfl rfl rfl (show (h - 1) - 1 < 25 from by omega) (gx_run1 (show (h - 1) - 1 < 25 from by omega)) (gx_full (by first | decide | omega)) rfl (fun t103 g103 k103 e103 => ?_)
    have k4 : ai_hv t103 297 (h - 1) = some (.inl y) := (e103 297 (h - 1) (by first | decide | omega)).trans ky
    have k5 : ai_hv t103 296 2 = some (.inl s) := (e103 296 2 (by first | decide | omega)).trans ks
    have k6 : ai_hv t103 298 i = some (.inl 4294967288) := (e103 298 i (by first | decide | omega)).trans kz
    refine ex_go (S := (147, l2, [], t103, n, 0)) rfl (fun _ => rfl) rfl ?_
    refine gx_incS (i := 6) (a := i) (x := 1) rfl (fun _ => rfl) l2_6 (by first | decide | omega) rfl (fun l7 hl7 ml7 => ?_)
    have l7_0 : en_ld l7 0 = some (gx_r 296) := ml7 0 _ l2_0 rfl
    have l7_1 : en_ld l7 1 = some (.inl mo) := ml7 1 _ l2_1 rfl
    have l7_2 : en_ld l7 2 = some (.inl me) := ml7 2 _ l2_2 rfl
    have l7_3 : en_ld l7 3 = some (.inl ti) := ml7 3 _ l2_3 rfl
    have l7_4 : en_ld l7 4 = some (.inl ou) := ml7 4 _ l2_4 rfl
    have l7_7 : en_ld l7 7 = some (.inl 4294967288) := ml7 7 _ l2_7 rfl
    have l7_5 : en_ld l7 5 = some (.inl (h - 1)) := ml7 5 _ hl2 rfl
    refine ex_go (S := (6, l7, [], t103, n, 0)) rfl (fun _ => rfl) rfl ?_
    exact hQ _ t103 g103 (fun c j h9 => e103 c j (by first | decide | omega)) k103 l7_0 l7_1 l7_2 l7_3 l7_4 l7_5 hl7
  · refine gx_ld (i := 6) (d := 0) (v := .inl i) rfl (fun _ => rfl) h6 rfl rfl ?_
    refine gx_ld (i := 0) (d := 2) (v := gx_r 296) rfl (fun _ => rfl) h0 rfl rfl ?_
    refine gxo_get (a := 296) rfl g0 rfl rfl ks rfl ?_
    refine gx_2f (c := .ge) rfl (by first | decide | omega) (by first | decide | omega) (show ¬ (s ≤ i) from by omega) rfl ?_
    refine gx_ld (i := 0) (d := 2) (v := gx_r 296) rfl (fun _ => rfl) h0 rfl rfl ?_
    refine gxo_ref (a := 296) (c := 298) rfl g0 rfl rfl rfl rfl rfl ?_
    refine gx_ld (i := 6) (d := 0) (v := .inl i) rfl (fun _ => rfl) h6 rfl rfl ?_
    refine gx_ag (v := .inl 4294967292) (cb := fun c => Nat.beq c 0) rfl (fun _ => rfl) g0 rfl rfl kz (by first | decide | omega) rfl ?_
    refine gx_sto (i := 7) (d := 0) rfl (fun _ => rfl) rfl rfl (fun l1 hl1 ml1 => ?_)
    have l1_0 : en_ld l1 0 = some (gx_r 296) := ml1 0 _ h0 rfl
    have l1_1 : en_ld l1 1 = some (.inl mo) := ml1 1 _ hm rfl
    have l1_2 : en_ld l1 2 = some (.inl me) := ml1 2 _ ha rfl
    have l1_3 : en_ld l1 3 = some (.inl ti) := ml1 3 _ hb rfl
    have l1_4 : en_ld l1 4 = some (.inl ou) := ml1 4 _ ho4 rfl
    have l1_5 : en_ld l1 5 = some (.inl h) := ml1 5 _ h5 rfl
    have l1_6 : en_ld l1 6 = some (.inl i) := ml1 6 _ h6 rfl
    refine gx_ld (i := 7) (d := 0) (v := .inl 4294967292) rfl (fun _ => rfl) hl1 rfl rfl ?_
    refine ex_go (S := (27, l1, [.inl 4294967295, .inl 4294967292], t0, n, 0)) rfl (fun _ => rfl) rfl ?_
    refine ex_go (S := (64, l1, [], t0, n, 0)) rfl (fun _ => rfl) rfl ?_
    refine gx_ld (i := 7) (d := 0) (v := .inl 4294967292) rfl (fun _ => rfl) hl1 rfl rfl ?_
    refine ex_go (S := (69, l1, [], t0, n, 0)) rfl (fun _ => rfl) rfl ?_
    refine gx_ld (i := 7) (d := 0) (v := .inl 4294967292) rfl (fun _ => rfl) hl1 rfl rfl ?_
    refine ex_go (S := (73, l1, [.inl 4294967288, .inl 4294967292], t0, n, 0)) rfl (fun _ => rfl) rfl ?_
    refine ex_go (S := (76, l1, [], t0, n, 0)) rfl (fun _ => rfl) rfl ?_
    refine gx_ld (i := 5) (d := 0) (v := .inl h) rfl (fun _ => rfl) l1_5 rfl rfl ?_
    refine ex_go (S := (79, l1, [.inl 1, .inl h], t0, n, 0)) rfl (fun _ => rfl) rfl ?_
    refine gx_2f (c := .le) rfl (by first | decide | omega) (by first | decide | omega) (show ¬ (h ≤ 1) from by omega) rfl ?_
    refine gx_decS (i := 5) (a := h) rfl (fun _ => rfl) l1_5 (by first | decide | omega) (by first | decide | omega) rfl (fun l2 hl2 ml2 => ?_)
    have l2_0 : en_ld l2 0 = some (gx_r 296) := ml2 0 _ l1_0 rfl
    have l2_1 : en_ld l2 1 = some (.inl mo) := ml2 1 _ l1_1 rfl
    have l2_2 : en_ld l2 2 = some (.inl me) := ml2 2 _ l1_2 rfl
    have l2_3 : en_ld l2 3 = some (.inl ti) := ml2 3 _ l1_3 rfl
    have l2_4 : en_ld l2 4 = some (.inl ou) := ml2 4 _ l1_4 rfl
    have l2_6 : en_ld l2 6 = some (.inl i) := ml2 6 _ l1_6 rfl
    have l2_7 : en_ld l2 7 = some (.inl 4294967292) := ml2 7 _ hl1 rfl
    refine gx_ld (i := 0) (d := 2) (v := gx_r 296) rfl (fun _ => rfl) l2_0 rfl rfl ?_
    refine gxo_ref (a := 296) (c := 297) rfl g0 rfl rfl rfl rfl rfl ?_
    refine gx_ld (i := 5) (d := 0) (v := .inl (h - 1)) rfl (fun _ => rfl) hl2 rfl rfl ?_
    refine ex_go (S := (92, l2, [.inl 1, .inl (h - 1), gx_r 297], t0, n, 0)) rfl (fun _ => rfl) rfl ?_
    refine gx_isub rfl (by first | decide | omega) (by first | decide | omega) rfl ?_
    refine gx_ld (i := 7) (d := 0) (v := .inl 4294967292) rfl (fun _ => rfl) l2_7 rfl rfl ?_
    refine gx_ld (i := 0) (d := 2) (v := gx_r 296) rfl (fun _ => rfl) l2_0 rfl rfl ?_
    refine gxo_ref (a := 296) (c := 297) rfl g0 rfl rfl rfl rfl rfl ?_
    refine gx_ld (i := 5) (d := 0) (v := .inl (h - 1)) rfl (fun _ => rfl) hl2 rfl rfl ?_
    refine ex_go (S := (102, l2, [.inl 1, .inl (h - 1), gx_r 297, .inl 4294967292, .inl ((h - 1) - 1), gx_r 297], t0, n, 0)) rfl (fun _ => rfl) rfl ?_
    refine gx_isub rfl (by first | decide | omega) (by first | decide | omega) rfl ?_
    refine gx_ag (v := .inl x) (cb := fun c => Nat.beq c 0) rfl (fun _ => rfl) g0 rfl rfl kx (by first | decide | omega) rfl ?_
    refine gx_ld (i := 0) (d := 2) (v := gx_r 296) rfl (fun _ => rfl) l2_0 rfl rfl ?_
    refine gxo_ref (a := 296) (c := 297) rfl g0 rfl rfl rfl rfl rfl ?_
    refine gx_ld (i := 5) (d := 0) (v := .inl (h - 1)) rfl (fun _ => rfl) hl2 rfl rfl ?_
    refine gx_ag (v := .inl y) (cb := fun c => Nat.beq c 0) rfl (fun _ => rfl) g0 rfl rfl ky (by first | decide | omega) rfl ?_
    have hvb := vb_lt (o := opm 4294967292) (a := x) (b := y)
    refine ex_stat rfl rfl rfl rfl rfl (pc_joined d n (t0 := t0) (z := 4294967292) (x := x) (y := y) (by first | decide | omega) (by first | decide | omega) (by first | decide | omega)) (Nat.le_refl _) rfl ?_
    show en_ex _ _ _ _ (114, l2, [.inl (vb (opm 4294967292) x y), .inl ((h - 1) - 1), gx_r 297], t0, n, 0) _
    refine gx_ap rfl (fun _ => rfl) g0 rfl rfl rfl (show (h - 1) - 1 < 25 from by omega) (gx_run1 (show (h - 1) - 1 < 25 from by omega)) (gx_full (by first | decide | omega)) rfl (fun t103 g103 k103 e103 => ?_)
    have k4 : ai_hv t103 297 (h - 1) = some (.inl y) := (e103 297 (h - 1) (by first | decide | omega)).trans ky
    have k5 : ai_hv t103 296 2 = some (.inl s) := (e103 296 2 (by first | decide | omega)).trans ks
    have k6 : ai_hv t103 298 i = some (.inl 4294967292) := (e103 298 i (by first | decide | omega)).trans kz
    refine ex_go (S := (147, l2, [], t103, n, 0)) rfl (fun _ => rfl) rfl ?_
    refine gx_incS (i := 6) (a := i) (x := 1) rfl (fun _ => rfl) l2_6 (by first | decide | omega) rfl (fun l7 hl7 ml7 => ?_)
    have l7_0 : en_ld l7 0 = some (gx_r 296) := ml7 0 _ l2_0 rfl
    have l7_1 : en_ld l7 1 = some (.inl mo) := ml7 1 _ l2_1 rfl
    have l7_2 : en_ld l7 2 = some (.inl me) := ml7 2 _ l2_2 rfl
    have l7_3 : en_ld l7 3 = some (.inl ti) := ml7 3 _ l2_3 rfl
    have l7_4 : en_ld l7 4 = some (.inl ou) := ml7 4 _ l2_4 rfl
    have l7_7 : en_ld l7 7 = some (.inl 4294967292) := ml7 7 _ l2_7 rfl
    have l7_5 : en_ld l7 5 = some (.inl (h - 1)) := ml7 5 _ hl2 rfl
    refine ex_go (S := (6, l7, [], t103, n, 0)) rfl (fun _ => rfl) rfl ?_
    exact hQ _ t103 g103 (fun c j h9 => e103 c j (by first | decide | omega)) k103 l7_0 l7_1 l7_2 l7_3 l7_4 l7_5 hl7
  · refine gx_ld (i := 6) (d := 0) (v := .inl i) rfl (fun _ => rfl) h6 rfl rfl ?_
    refine gx_ld (i := 0) (d := 2) (v := gx_r 296) rfl (fun _ => rfl) h0 rfl rfl ?_
    refine gxo_get (a := 296) rfl g0 rfl rfl ks rfl ?_
    refine gx_2f (c := .ge) rfl (by first | decide | omega) (by first | decide | omega) (show ¬ (s ≤ i) from by omega) rfl ?_
    refine gx_ld (i := 0) (d := 2) (v := gx_r 296) rfl (fun _ => rfl) h0 rfl rfl ?_
    refine gxo_ref (a := 296) (c := 298) rfl g0 rfl rfl rfl rfl rfl ?_
    refine gx_ld (i := 6) (d := 0) (v := .inl i) rfl (fun _ => rfl) h6 rfl rfl ?_
    refine gx_ag (v := .inl 4294967291) (cb := fun c => Nat.beq c 0) rfl (fun _ => rfl) g0 rfl rfl kz (by first | decide | omega) rfl ?_
    refine gx_sto (i := 7) (d := 0) rfl (fun _ => rfl) rfl rfl (fun l1 hl1 ml1 => ?_)
    have l1_0 : en_ld l1 0 = some (gx_r 296) := ml1 0 _ h0 rfl
    have l1_1 : en_ld l1 1 = some (.inl mo) := ml1 1 _ hm rfl
    have l1_2 : en_ld l1 2 = some (.inl me) := ml1 2 _ ha rfl
    have l1_3 : en_ld l1 3 = some (.inl ti) := ml1 3 _ hb rfl
    have l1_4 : en_ld l1 4 = some (.inl ou) := ml1 4 _ ho4 rfl
    have l1_5 : en_ld l1 5 = some (.inl h) := ml1 5 _ h5 rfl
    have l1_6 : en_ld l1 6 = some (.inl i) := ml1 6 _ h6 rfl
    refine gx_ld (i := 7) (d := 0) (v := .inl 4294967291) rfl (fun _ => rfl) hl1 rfl rfl ?_
    refine ex_go (S := (27, l1, [.inl 4294967295, .inl 4294967291], t0, n, 0)) rfl (fun _ => rfl) rfl ?_
    refine ex_go (S := (64, l1, [], t0, n, 0)) rfl (fun _ => rfl) rfl ?_
    refine gx_ld (i := 7) (d := 0) (v := .inl 4294967291) rfl (fun _ => rfl) hl1 rfl rfl ?_
    refine ex_go (S := (69, l1, [], t0, n, 0)) rfl (fun _ => rfl) rfl ?_
    refine gx_ld (i := 7) (d := 0) (v := .inl 4294967291) rfl (fun _ => rfl) hl1 rfl rfl ?_
    refine ex_go (S := (73, l1, [.inl 4294967288, .inl 4294967291], t0, n, 0)) rfl (fun _ => rfl) rfl ?_
    refine ex_go (S := (76, l1, [], t0, n, 0)) rfl (fun _ => rfl) rfl ?_
    refine gx_ld (i := 5) (d := 0) (v := .inl h) rfl (fun _ => rfl) l1_5 rfl rfl ?_
    refine ex_go (S := (79, l1, [.inl 1, .inl h], t0, n, 0)) rfl (fun _ => rfl) rfl ?_
    refine gx_2f (c := .le) rfl (by first | decide | omega) (by first | decide | omega) (show ¬ (h ≤ 1) from by omega) rfl ?_
    refine gx_decS (i := 5) (a := h) rfl (fun _ => rfl) l1_5 (by first | decide | omega) (by first | decide | omega) rfl (fun l2 hl2 ml2 => ?_)
    have l2_0 : en_ld l2 0 = some (gx_r 296) := ml2 0 _ l1_0 rfl
    have l2_1 : en_ld l2 1 = some (.inl mo) := ml2 1 _ l1_1 rfl
    have l2_2 : en_ld l2 2 = some (.inl me) := ml2 2 _ l1_2 rfl
    have l2_3 : en_ld l2 3 = some (.inl ti) := ml2 3 _ l1_3 rfl
    have l2_4 : en_ld l2 4 = some (.inl ou) := ml2 4 _ l1_4 rfl
    have l2_6 : en_ld l2 6 = some (.inl i) := ml2 6 _ l1_6 rfl
    have l2_7 : en_ld l2 7 = some (.inl 4294967291) := ml2 7 _ hl1 rfl
    refine gx_ld (i := 0) (d := 2) (v := gx_r 296) rfl (fun _ => rfl) l2_0 rfl rfl ?_
    refine gxo_ref (a := 296) (c := 297) rfl g0 rfl rfl rfl rfl rfl ?_
    refine gx_ld (i := 5) (d := 0) (v := .inl (h - 1)) rfl (fun _ => rfl) hl2 rfl rfl ?_
    refine ex_go (S := (92, l2, [.inl 1, .inl (h - 1), gx_r 297], t0, n, 0)) rfl (fun _ => rfl) rfl ?_
    refine gx_isub rfl (by first | decide | omega) (by first | decide | omega) rfl ?_
    refine gx_ld (i := 7) (d := 0) (v := .inl 4294967291) rfl (fun _ => rfl) l2_7 rfl rfl ?_
    refine gx_ld (i := 0) (d := 2) (v := gx_r 296) rfl (fun _ => rfl) l2_0 rfl rfl ?_
    refine gxo_ref (a := 296) (c := 297) rfl g0 rfl rfl rfl rfl rfl ?_
    refine gx_ld (i := 5) (d := 0) (v := .inl (h - 1)) rfl (fun _ => rfl) hl2 rfl rfl ?_
    refine ex_go (S := (102, l2, [.inl 1, .inl (h - 1), gx_r 297, .inl 4294967291, .inl ((h - 1) - 1), gx_r 297], t0, n, 0)) rfl (fun _ => rfl) rfl ?_
    refine gx_isub rfl (by first | decide | omega) (by first | decide | omega) rfl ?_
    refine gx_ag (v := .inl x) (cb := fun c => Nat.beq c 0) rfl (fun _ => rfl) g0 rfl rfl kx (by first | decide | omega) rfl ?_
    refine gx_ld (i := 0) (d := 2) (v := gx_r 296) rfl (fun _ => rfl) l2_0 rfl rfl ?_
    refine gxo_ref (a := 296) (c := 297) rfl g0 rfl rfl rfl rfl rfl ?_
    refine gx_ld (i := 5) (d := 0) (v := .inl (h - 1)) rfl (fun _ => rfl) hl2 rfl rfl ?_
    refine gx_ag (v := .inl y) (cb := fun c => Nat.beq c 0) rfl (fun _ => rfl) g0 rfl rfl ky (by first | decide | omega) rfl ?_
    have hvb := vb_lt (o := opm 4294967291) (a := x) (b := y)
    refine ex_stat rfl rfl rfl rfl rfl (pc_joined d n (t0 := t0) (z := 4294967291) (x := x) (y := y) (by first | decide | omega) (by first | decide | omega) (by first | decide | omega)) (Nat.le_refl _) rfl ?_
    show en_ex _ _ _ _ (114, l2, [.inl (vb (opm 4294967291) x y), .inl ((h - 1) - 1), gx_r 297], t0, n, 0) _
    refine gx_ap rfl (fun _ => rfl) g0 rfl rfl rfl (show (h - 1) - 1 < 25 from by omega) (gx_run1 (show (h - 1) - 1 < 25 from by omega)) (gx_full (by first | decide | omega)) rfl (fun t103 g103 k103 e103 => ?_)
    have k4 : ai_hv t103 297 (h - 1) = some (.inl y) := (e103 297 (h - 1) (by first | decide | omega)).trans ky
    have k5 : ai_hv t103 296 2 = some (.inl s) := (e103 296 2 (by first | decide | omega)).trans ks
    have k6 : ai_hv t103 298 i = some (.inl 4294967291) := (e103 298 i (by first | decide | omega)).trans kz
    refine ex_go (S := (147, l2, [], t103, n, 0)) rfl (fun _ => rfl) rfl ?_
    refine gx_incS (i := 6) (a := i) (x := 1) rfl (fun _ => rfl) l2_6 (by first | decide | omega) rfl (fun l7 hl7 ml7 => ?_)
    have l7_0 : en_ld l7 0 = some (gx_r 296) := ml7 0 _ l2_0 rfl
    have l7_1 : en_ld l7 1 = some (.inl mo) := ml7 1 _ l2_1 rfl
    have l7_2 : en_ld l7 2 = some (.inl me) := ml7 2 _ l2_2 rfl
    have l7_3 : en_ld l7 3 = some (.inl ti) := ml7 3 _ l2_3 rfl
    have l7_4 : en_ld l7 4 = some (.inl ou) := ml7 4 _ l2_4 rfl
    have l7_7 : en_ld l7 7 = some (.inl 4294967291) := ml7 7 _ l2_7 rfl
    have l7_5 : en_ld l7 5 = some (.inl (h - 1)) := ml7 5 _ hl2 rfl
    refine ex_go (S := (6, l7, [], t103, n, 0)) rfl (fun _ => rfl) rfl ?_
    exact hQ _ t103 g103 (fun c j h9 => e103 c j (by first | decide | omega)) k103 l7_0 l7_1 l7_2 l7_3 l7_4 l7_5 hl7
  · refine gx_ld (i := 6) (d := 0) (v := .inl i) rfl (fun _ => rfl) h6 rfl rfl ?_
    refine gx_ld (i := 0) (d := 2) (v := gx_r 296) rfl (fun _ => rfl) h0 rfl rfl ?_
    refine gxo_get (a := 296) rfl g0 rfl rfl ks rfl ?_
    refine gx_2f (c := .ge) rfl (by first | decide | omega) (by first | decide | omega) (show ¬ (s ≤ i) from by omega) rfl ?_
    refine gx_ld (i := 0) (d := 2) (v := gx_r 296) rfl (fun _ => rfl) h0 rfl rfl ?_
    refine gxo_ref (a := 296) (c := 298) rfl g0 rfl rfl rfl rfl rfl ?_
    refine gx_ld (i := 6) (d := 0) (v := .inl i) rfl (fun _ => rfl) h6 rfl rfl ?_
    refine gx_ag (v := .inl 4294967294) (cb := fun c => Nat.beq c 0) rfl (fun _ => rfl) g0 rfl rfl kz (by first | decide | omega) rfl ?_
    refine gx_sto (i := 7) (d := 0) rfl (fun _ => rfl) rfl rfl (fun l1 hl1 ml1 => ?_)
    have l1_0 : en_ld l1 0 = some (gx_r 296) := ml1 0 _ h0 rfl
    have l1_1 : en_ld l1 1 = some (.inl mo) := ml1 1 _ hm rfl
    have l1_2 : en_ld l1 2 = some (.inl me) := ml1 2 _ ha rfl
    have l1_3 : en_ld l1 3 = some (.inl ti) := ml1 3 _ hb rfl
    have l1_4 : en_ld l1 4 = some (.inl ou) := ml1 4 _ ho4 rfl
    have l1_5 : en_ld l1 5 = some (.inl h) := ml1 5 _ h5 rfl
    have l1_6 : en_ld l1 6 = some (.inl i) := ml1 6 _ h6 rfl
    refine gx_ld (i := 7) (d := 0) (v := .inl 4294967294) rfl (fun _ => rfl) hl1 rfl rfl ?_
    refine ex_go (S := (27, l1, [.inl 4294967295, .inl 4294967294], t0, n, 0)) rfl (fun _ => rfl) rfl ?_
    refine ex_go (S := (64, l1, [], t0, n, 0)) rfl (fun _ => rfl) rfl ?_
    refine gx_ld (i := 7) (d := 0) (v := .inl 4294967294) rfl (fun _ => rfl) hl1 rfl rfl ?_
    refine ex_go (S := (69, l1, [], t0, n, 0)) rfl (fun _ => rfl) rfl ?_
    refine gx_ld (i := 7) (d := 0) (v := .inl 4294967294) rfl (fun _ => rfl) hl1 rfl rfl ?_
    refine ex_go (S := (73, l1, [.inl 4294967288, .inl 4294967294], t0, n, 0)) rfl (fun _ => rfl) rfl ?_
    refine ex_go (S := (76, l1, [], t0, n, 0)) rfl (fun _ => rfl) rfl ?_
    refine gx_ld (i := 5) (d := 0) (v := .inl h) rfl (fun _ => rfl) l1_5 rfl rfl ?_
    refine ex_go (S := (79, l1, [.inl 1, .inl h], t0, n, 0)) rfl (fun _ => rfl) rfl ?_
    refine gx_2f (c := .le) rfl (by first | decide | omega) (by first | decide | omega) (show ¬ (h ≤ 1) from by omega) rfl ?_
    refine gx_decS (i := 5) (a := h) rfl (fun _ => rfl) l1_5 (by first | decide | omega) (by first | decide | omega) rfl (fun l2 hl2 ml2 => ?_)
    have l2_0 : en_ld l2 0 = some (gx_r 296) := ml2 0 _ l1_0 rfl
    have l2_1 : en_ld l2 1 = some (.inl mo) := ml2 1 _ l1_1 rfl
    have l2_2 : en_ld l2 2 = some (.inl me) := ml2 2 _ l1_2 rfl
    have l2_3 : en_ld l2 3 = some (.inl ti) := ml2 3 _ l1_3 rfl
    have l2_4 : en_ld l2 4 = some (.inl ou) := ml2 4 _ l1_4 rfl
    have l2_6 : en_ld l2 6 = some (.inl i) := ml2 6 _ l1_6 rfl
    have l2_7 : en_ld l2 7 = some (.inl 4294967294) := ml2 7 _ hl1 rfl
    refine gx_ld (i := 0) (d := 2) (v := gx_r 296) rfl (fun _ => rfl) l2_0 rfl rfl ?_
    refine gxo_ref (a := 296) (c := 297) rfl g0 rfl rfl rfl rfl rfl ?_
    refine gx_ld (i := 5) (d := 0) (v := .inl (h - 1)) rfl (fun _ => rfl) hl2 rfl rfl ?_
    refine ex_go (S := (92, l2, [.inl 1, .inl (h - 1), gx_r 297], t0, n, 0)) rfl (fun _ => rfl) rfl ?_
    refine gx_isub rfl (by first | decide | omega) (by first | decide | omega) rfl ?_
    refine gx_ld (i := 7) (d := 0) (v := .inl 4294967294) rfl (fun _ => rfl) l2_7 rfl rfl ?_
    refine gx_ld (i := 0) (d := 2) (v := gx_r 296) rfl (fun _ => rfl) l2_0 rfl rfl ?_
    refine gxo_ref (a := 296) (c := 297) rfl g0 rfl rfl rfl rfl rfl ?_
    refine gx_ld (i := 5) (d := 0) (v := .inl (h - 1)) rfl (fun _ => rfl) hl2 rfl rfl ?_
    refine ex_go (S := (102, l2, [.inl 1, .inl (h - 1), gx_r 297, .inl 4294967294, .inl ((h - 1) - 1), gx_r 297], t0, n, 0)) rfl (fun _ => rfl) rfl ?_
    refine gx_isub rfl (by first | decide | omega) (by first | decide | omega) rfl ?_
    refine gx_ag (v := .inl x) (cb := fun c => Nat.beq c 0) rfl (fun _ => rfl) g0 rfl rfl kx (by first | decide | omega) rfl ?_
    refine gx_ld (i := 0) (d := 2) (v := gx_r 296) rfl (fun _ => rfl) l2_0 rfl rfl ?_
    refine gxo_ref (a := 296) (c := 297) rfl g0 rfl rfl rfl rfl rfl ?_
    refine gx_ld (i := 5) (d := 0) (v := .inl (h - 1)) rfl (fun _ => rfl) hl2 rfl rfl ?_
    refine gx_ag (v := .inl y) (cb := fun c => Nat.beq c 0) rfl (fun _ => rfl) g0 rfl rfl ky (by first | decide | omega) rfl ?_
    have hvb := vb_lt (o := opm 4294967294) (a := x) (b := y)
    refine ex_stat rfl rfl rfl rfl rfl (pc_joined d n (t0 := t0) (z := 4294967294) (x := x) (y := y) (by first | decide | omega) (by first | decide | omega) (by first | decide | omega)) (Nat.le_refl _) rfl ?_
    show en_ex _ _ _ _ (114, l2, [.inl (vb (opm 4294967294) x y), .inl ((h - 1) - 1), gx_r 297], t0, n, 0) _
    refine gx_ap rfl (fun _ => rfl) g0 rfl rfl rfl (show (h - 1) - 1 < 25 from by omega) (gx_run1 (show (h - 1) - 1 < 25 from by omega)) (gx_full (by first | decide | omega)) rfl (fun t103 g103 k103 e103 => ?_)
    have k4 : ai_hv t103 297 (h - 1) = some (.inl y) := (e103 297 (h - 1) (by first | decide | omega)).trans ky
    have k5 : ai_hv t103 296 2 = some (.inl s) := (e103 296 2 (by first | decide | omega)).trans ks
    have k6 : ai_hv t103 298 i = some (.inl 4294967294) := (e103 298 i (by first | decide | omega)).trans kz
    refine ex_go (S := (147, l2, [], t103, n, 0)) rfl (fun _ => rfl) rfl ?_
    refine gx_incS (i := 6) (a := i) (x := 1) rfl (fun _ => rfl) l2_6 (by first | decide | omega) rfl (fun l7 hl7 ml7 => ?_)
    have l7_0 : en_ld l7 0 = some (gx_r 296) := ml7 0 _ l2_0 rfl
    have l7_1 : en_ld l7 1 = some (.inl mo) := ml7 1 _ l2_1 rfl
    have l7_2 : en_ld l7 2 = some (.inl me) := ml7 2 _ l2_2 rfl
    have l7_3 : en_ld l7 3 = some (.inl ti) := ml7 3 _ l2_3 rfl
    have l7_4 : en_ld l7 4 = some (.inl ou) := ml7 4 _ l2_4 rfl
    have l7_7 : en_ld l7 7 = some (.inl 4294967294) := ml7 7 _ l2_7 rfl
    have l7_5 : en_ld l7 5 = some (.inl (h - 1)) := ml7 5 _ hl2 rfl
    refine ex_go (S := (6, l7, [], t103, n, 0)) rfl (fun _ => rfl) rfl ?_
    exact hQ _ t103 g103 (fun c j h9 => e103 c j (by first | decide | omega)) k103 l7_0 l7_1 l7_2 l7_3 l7_4 l7_5 hl7
  · refine gx_ld (i := 6) (d := 0) (v := .inl i) rfl (fun _ => rfl) h6 rfl rfl ?_
    refine gx_ld (i := 0) (d := 2) (v := gx_r 296) rfl (fun _ => rfl) h0 rfl rfl ?_
    refine gxo_get (a := 296) rfl g0 rfl rfl ks rfl ?_
    refine gx_2f (c := .ge) rfl (by first | decide | omega) (by first | decide | omega) (show ¬ (s ≤ i) from by omega) rfl ?_
    refine gx_ld (i := 0) (d := 2) (v := gx_r 296) rfl (fun _ => rfl) h0 rfl rfl ?_
    refine gxo_ref (a := 296) (c := 298) rfl g0 rfl rfl rfl rfl rfl ?_
    refine gx_ld (i := 6) (d := 0) (v := .inl i) rfl (fun _ => rfl) h6 rfl rfl ?_
    refine gx_ag (v := .inl 4294967293) (cb := fun c => Nat.beq c 0) rfl (fun _ => rfl) g0 rfl rfl kz (by first | decide | omega) rfl ?_
    refine gx_sto (i := 7) (d := 0) rfl (fun _ => rfl) rfl rfl (fun l1 hl1 ml1 => ?_)
    have l1_0 : en_ld l1 0 = some (gx_r 296) := ml1 0 _ h0 rfl
    have l1_1 : en_ld l1 1 = some (.inl mo) := ml1 1 _ hm rfl
    have l1_2 : en_ld l1 2 = some (.inl me) := ml1 2 _ ha rfl
    have l1_3 : en_ld l1 3 = some (.inl ti) := ml1 3 _ hb rfl
    have l1_4 : en_ld l1 4 = some (.inl ou) := ml1 4 _ ho4 rfl
    have l1_5 : en_ld l1 5 = some (.inl h) := ml1 5 _ h5 rfl
    have l1_6 : en_ld l1 6 = some (.inl i) := ml1 6 _ h6 rfl
    refine gx_ld (i := 7) (d := 0) (v := .inl 4294967293) rfl (fun _ => rfl) hl1 rfl rfl ?_
    refine ex_go (S := (27, l1, [.inl 4294967295, .inl 4294967293], t0, n, 0)) rfl (fun _ => rfl) rfl ?_
    refine ex_go (S := (64, l1, [], t0, n, 0)) rfl (fun _ => rfl) rfl ?_
    refine gx_ld (i := 7) (d := 0) (v := .inl 4294967293) rfl (fun _ => rfl) hl1 rfl rfl ?_
    refine ex_go (S := (69, l1, [], t0, n, 0)) rfl (fun _ => rfl) rfl ?_
    refine gx_ld (i := 7) (d := 0) (v := .inl 4294967293) rfl (fun _ => rfl) hl1 rfl rfl ?_
    refine ex_go (S := (73, l1, [.inl 4294967288, .inl 4294967293], t0, n, 0)) rfl (fun _ => rfl) rfl ?_
    refine ex_go (S := (76, l1, [], t0, n, 0)) rfl (fun _ => rfl) rfl ?_
    refine gx_ld (i := 5) (d := 0) (v := .inl h) rfl (fun _ => rfl) l1_5 rfl rfl ?_
    refine ex_go (S := (79, l1, [.inl 1, .inl h], t0, n, 0)) rfl (fun _ => rfl) rfl ?_
    refine gx_2f (c := .le) rfl (by first | decide | omega) (by first | decide | omega) (show ¬ (h ≤ 1) from by omega) rfl ?_
    refine gx_decS (i := 5) (a := h) rfl (fun _ => rfl) l1_5 (by first | decide | omega) (by first | decide | omega) rfl (fun l2 hl2 ml2 => ?_)
    have l2_0 : en_ld l2 0 = some (gx_r 296) := ml2 0 _ l1_0 rfl
    have l2_1 : en_ld l2 1 = some (.inl mo) := ml2 1 _ l1_1 rfl
    have l2_2 : en_ld l2 2 = some (.inl me) := ml2 2 _ l1_2 rfl
    have l2_3 : en_ld l2 3 = some (.inl ti) := ml2 3 _ l1_3 rfl
    have l2_4 : en_ld l2 4 = some (.inl ou) := ml2 4 _ l1_4 rfl
    have l2_6 : en_ld l2 6 = some (.inl i) := ml2 6 _ l1_6 rfl
    have l2_7 : en_ld l2 7 = some (.inl 4294967293) := ml2 7 _ hl1 rfl
    refine gx_ld (i := 0) (d := 2) (v := gx_r 296) rfl (fun _ => rfl) l2_0 rfl rfl ?_
    refine gxo_ref (a := 296) (c := 297) rfl g0 rfl rfl rfl rfl rfl ?_
    refine gx_ld (i := 5) (d := 0) (v := .inl (h - 1)) rfl (fun _ => rfl) hl2 rfl rfl ?_
    refine ex_go (S := (92, l2, [.inl 1, .inl (h - 1), gx_r 297], t0, n, 0)) rfl (fun _ => rfl) rfl ?_
    refine gx_isub rfl (by first | decide | omega) (by first | decide | omega) rfl ?_
    refine gx_ld (i := 7) (d := 0) (v := .inl 4294967293) rfl (fun _ => rfl) l2_7 rfl rfl ?_
    refine gx_ld (i := 0) (d := 2) (v := gx_r 296) rfl (fun _ => rfl) l2_0 rfl rfl ?_
    refine gxo_ref (a := 296) (c := 297) rfl g0 rfl rfl rfl rfl rfl ?_
    refine gx_ld (i := 5) (d := 0) (v := .inl (h - 1)) rfl (fun _ => rfl) hl2 rfl rfl ?_
    refine ex_go (S := (102, l2, [.inl 1, .inl (h - 1), gx_r 297, .inl 4294967293, .inl ((h - 1) - 1), gx_r 297], t0, n, 0)) rfl (fun _ => rfl) rfl ?_
    refine gx_isub rfl (by first | decide | omega) (by first | decide | omega) rfl ?_
    refine gx_ag (v := .inl x) (cb := fun c => Nat.beq c 0) rfl (fun _ => rfl) g0 rfl rfl kx (by first | decide | omega) rfl ?_
    refine gx_ld (i := 0) (d := 2) (v := gx_r 296) rfl (fun _ => rfl) l2_0 rfl rfl ?_
    refine gxo_ref (a := 296) (c := 297) rfl g0 rfl rfl rfl rfl rfl ?_
    refine gx_ld (i := 5) (d := 0) (v := .inl (h - 1)) rfl (fun _ => rfl) hl2 rfl rfl ?_
    refine gx_ag (v := .inl y) (cb := fun c => Nat.beq c 0) rfl (fun _ => rfl) g0 rfl rfl ky (by first | decide | omega) rfl ?_
    have hvb := vb_lt (o := opm 4294967293) (a := x) (b := y)
    refine ex_stat rfl rfl rfl rfl rfl (pc_joined d n (t0 := t0) (z := 4294967293) (x := x) (y := y) (by first | decide | omega) (by first | decide | omega) (by first | decide | omega)) (Nat.le_refl _) rfl ?_
    show en_ex _ _ _ _ (114, l2, [.inl (vb (opm 4294967293) x y), .inl ((h - 1) - 1), gx_r 297], t0, n, 0) _
    refine gx_ap rfl (fun _ => rfl) g0 rfl rfl rfl (show (h - 1) - 1 < 25 from by omega) (gx_run1 (show (h - 1) - 1 < 25 from by omega)) (gx_full (by first | decide | omega)) rfl (fun t103 g103 k103 e103 => ?_)
    have k4 : ai_hv t103 297 (h - 1) = some (.inl y) := (e103 297 (h - 1) (by first | decide | omega)).trans ky
    have k5 : ai_hv t103 296 2 = some (.inl s) := (e103 296 2 (by first | decide | omega)).trans ks
    have k6 : ai_hv t103 298 i = some (.inl 4294967293) := (e103 298 i (by first | decide | omega)).trans kz
    refine ex_go (S := (147, l2, [], t103, n, 0)) rfl (fun _ => rfl) rfl ?_
    refine gx_incS (i := 6) (a := i) (x := 1) rfl (fun _ => rfl) l2_6 (by first | decide | omega) rfl (fun l7 hl7 ml7 => ?_)
    have l7_0 : en_ld l7 0 = some (gx_r 296) := ml7 0 _ l2_0 rfl
    have l7_1 : en_ld l7 1 = some (.inl mo) := ml7 1 _ l2_1 rfl
    have l7_2 : en_ld l7 2 = some (.inl me) := ml7 2 _ l2_2 rfl
    have l7_3 : en_ld l7 3 = some (.inl ti) := ml7 3 _ l2_3 rfl
    have l7_4 : en_ld l7 4 = some (.inl ou) := ml7 4 _ l2_4 rfl
    have l7_7 : en_ld l7 7 = some (.inl 4294967293) := ml7 7 _ l2_7 rfl
    have l7_5 : en_ld l7 5 = some (.inl (h - 1)) := ml7 5 _ hl2 rfl
    refine ex_go (S := (6, l7, [], t103, n, 0)) rfl (fun _ => rfl) rfl ?_
    exact hQ _ t103 g103 (fun c j h9 => e103 c j (by first | decide | omega)) k103 l7_0 l7_1 l7_2 l7_3 l7_4 l7_5 hl7
theorem pv296_end (d n : Nat) {t0 : en_H} {cl : en_L} {mo me ti ou h i s v : Nat} {Q : en_O → Prop} (g0 : ai_HG ah_G t0) (h0 : en_ld cl 0 = some (gx_r 296)) (hm : en_ld cl 1 = some (.inl mo)) (ha : en_ld cl 2 = some (.inl me)) (hb : en_ld cl 3 = some (.inl ti)) (ho4 : en_ld cl 4 = some (.inl ou)) (h5 : en_ld cl 5 = some (.inl h)) (h6 : en_ld cl 6 = some (.inl i)) (ks : ai_hv t0 296 2 = some (.inl s)) (hs : s ≤ 1000) (hi : i = s) (hh : h = 1) (hmo : mo < 2147483648) (kv : ai_hv t0 297 0 = some (.inl v)) (hv : v < 4294967296) (hQ : Q (.inl (some (.inl (vcl mo v)), t0, n, 0))) : en_ex none (en_u (d + 1)) (en_code 210) (fun _ => false) (6, cl, [], t0, n, 0) Q := by
  refine gx_ld (i := 6) (d := 0) (v := .inl i) rfl (fun _ => rfl) h6 rfl rfl ?_
  refine gx_ld (i := 0) (d := 2) (v := gx_r 296) rfl (fun _ => rfl) h0 rfl rfl ?_
  refine gxo_get (a := 296) rfl g0 rfl rfl ks rfl ?_
  refine gx_2t (c := .ge) rfl (by first | decide | omega) (by first | decide | omega) (show s ≤ i from by omega) rfl ?_
  refine gx_ld (i := 5) (d := 0) (v := .inl h) rfl (fun _ => rfl) h5 rfl rfl ?_
  refine gx_1f (c := .le) rfl (by first | decide | omega) (show ¬ (h ≤ 0) from by omega) rfl ?_
  by_cases hvn : v < 2147483648
  · rw [vcl_n hvn] at hQ
    refine ex_go (S := (159, cl, [.inl 0], t0, n, 0)) rfl (fun _ => rfl) rfl ?_
    refine gx_ld (i := 1) (d := 0) (v := .inl mo) rfl (fun _ => rfl) hm rfl rfl ?_
    refine gx_ld (i := 0) (d := 2) (v := gx_r 296) rfl (fun _ => rfl) h0 rfl rfl ?_
    refine gxo_ref (a := 296) (c := 297) rfl g0 rfl rfl rfl rfl rfl ?_
    refine ex_go (S := (165, cl, [.inl 0, gx_r 297, .inl mo, .inl 0], t0, n, 0)) rfl (fun _ => rfl) rfl ?_
    refine gx_ag (v := .inl v) (cb := fun c => Nat.beq c 0) rfl (fun _ => rfl) g0 rfl rfl kv (by first | decide | omega) rfl ?_
    refine gx_inn rfl rfl rfl (zk_min (by first | decide | omega) (by first | decide | omega)) rfl rfl ?_
    refine gx_imm (m := min mo v) rfl rfl ((zk_max (by first | decide | omega) (by first | decide | omega)).trans (by rw [Nat.zero_max])) rfl rfl ?_
    refine ex_go (S := (176, cl, [.inl (min mo v)], t0, n, 0)) rfl (fun _ => rfl) rfl ?_
    refine ex_ret (r := (some (.inl (min mo v)), t0, n, 0)) rfl (fun _ => rfl) ?_
    exact hQ
  · rw [vcl_0 hvn] at hQ
    refine ex_go (S := (159, cl, [.inl 0], t0, n, 0)) rfl (fun _ => rfl) rfl ?_
    refine gx_ld (i := 1) (d := 0) (v := .inl mo) rfl (fun _ => rfl) hm rfl rfl ?_
    refine gx_ld (i := 0) (d := 2) (v := gx_r 296) rfl (fun _ => rfl) h0 rfl rfl ?_
    refine gxo_ref (a := 296) (c := 297) rfl g0 rfl rfl rfl rfl rfl ?_
    refine ex_go (S := (165, cl, [.inl 0, gx_r 297, .inl mo, .inl 0], t0, n, 0)) rfl (fun _ => rfl) rfl ?_
    refine gx_ag (v := .inl v) (cb := fun c => Nat.beq c 0) rfl (fun _ => rfl) g0 rfl rfl kv (by first | decide | omega) rfl ?_
    refine gx_inn (m := v) rfl rfl rfl (zk_minn (by first | decide | omega) (by first | decide | omega) (by first | decide | omega)) rfl rfl ?_
    refine gx_imm (m := 0) rfl rfl (zk_maxn (by first | decide | omega) (by first | decide | omega)) rfl rfl ?_
    refine ex_go (S := (176, cl, [.inl 0], t0, n, 0)) rfl (fun _ => rfl) rfl ?_
    refine ex_ret (r := (some (.inl 0), t0, n, 0)) rfl (fun _ => rfl) ?_
    exact hQ
theorem pv296_l (d n : Nat) {tb : en_H} {mo me ti ou s : Nat} (hmo : mo < 2147483648) (hme : me < 4294967296) (hti : ti < 4294967296) (hou : ou < 4294967296) (kb : ai_hv tb 296 2 = some (.inl s)) (hs : s ≤ 1000) : ∀ (L : List Nat) (i : Nat) (q : List Nat) (cl : en_L) (t0 : en_H), cco tb 296 i L → i + L.length = s → (∀ z, z ∈ L → ∃ fh, vo fh z) → hrun 25 L q.length = some 1 → q.length ≤ 25 → ai_HG ah_G t0 → (∀ c i, c ≠ 297 → ai_hv t0 c i = ai_hv tb c i) → stk t0 297 q → en_ld cl 0 = some (gx_r 296) → en_ld cl 1 = some (.inl mo) → en_ld cl 2 = some (.inl me) → en_ld cl 3 = some (.inl ti) → en_ld cl 4 = some (.inl ou) → en_ld cl 5 = some (.inl q.length) → en_ld cl 6 = some (.inl i) → en_ex none (en_u (d + 1)) (en_code 210) (fun _ => false) (6, cl, [], t0, n, 0) (fun o => ∃ v t1, o = .inl (some (.inl (vcl mo v)), t1, n, 0) ∧ vrun me ti ou L q = [v] ∧ v < 4294967296 ∧ ai_HG ah_G t1 ∧ (∀ c i, c ≠ 297 → ai_hv t1 c i = ai_hv tb c i))
  | [], i, q, cl, t0, hc, hi, hv, hr, hq, g0, e0, hst, l0, l1, l2, l3, l4, l5, l6 => by
    have hr : some q.length = some 1 := hr
    have hl := Option.some.inj hr
    match q, hl, hst, l5 with
    | [v], _, hst, l5 =>
      exact pv296_end d n g0 l0 l1 l2 l3 l4 l5 l6 ((e0 296 2 (by decide)).trans kb) hs hi rfl hmo hst.1 hst.2.1 ⟨v, t0, rfl, rfl, hst.2.1, g0, e0⟩
  | z :: L, i, q, cl, t0, hc, hi, hv, hr, hq, g0, e0, hst, l0, l1, l2, l3, l4, l5, l6 => by
    obtain ⟨c1, c3⟩ := hc
    have hi' : i + (L.length + 1) = s := hi
    have hvz := hv z List.mem_cons_self
    have hvL : ∀ z, z ∈ L → ∃ fh, vo fh z := fun z hz => hv z (List.mem_cons_of_mem _ hz)
    have hr : (if vk z = 0 then (if q.length < 25 then hrun 25 L (q.length + 1) else none) else if vk z = 1 then (if 1 ≤ q.length then hrun 25 L q.length else none) else (if 2 ≤ q.length then hrun 25 L (q.length - 1) else none)) = some 1 := hr
    have k1 : ai_hv t0 298 i = some (.inl z) := (e0 298 i (by decide)).trans c1
    have ks := (e0 296 2 (by decide)).trans kb
    show en_ex none (en_u (d + 1)) (en_code 210) (fun _ => false) (6, cl, [], t0, n, 0) (fun o => ∃ v t1, o = .inl (some (.inl (vcl mo v)), t1, n, 0) ∧ vrun me ti ou L (vs me ti ou z q) = [v] ∧ v < 4294967296 ∧ ai_HG ah_G t1 ∧ (∀ c i, c ≠ 297 → ai_hv t1 c i = ai_hv tb c i))
    by_cases z0 : vk z = 0
    · rw [if_pos z0] at hr
      by_cases hq2 : q.length < 25
      · rw [if_pos hq2] at hr
        have hvs : vs me ti ou z q = vpt me ti ou z :: q := by unfold vs; rw [if_pos z0]
        rw [hvs]
        have hz := vk_nn z0 (Or.inr hvz)
        have hvp : vpt me ti ou z < 4294967296 := vpt_lt hme hti hou hz
        exact pv296_val d n g0 l0 l1 l2 l3 l4 l5 l6 ks hs (by first | decide | omega) hq hme hti hou hz k1 hq2 (fun cl' t' g' e' k' m0 m1 m2 m3 m4 m5 m6 => pv296_l d n hmo hme hti hou kb hs L (i + 1) (vpt me ti ou z :: q) cl' t' c3 (by first | decide | omega) hvL hr (by show q.length + 1 ≤ 25; omega) g' (fun c j h9 => (e' c j (by first | decide | omega)).trans (e0 c j h9)) ⟨k', hvp, stk_keep hst (fun j hj => e' 297 j (by first | decide | omega))⟩ m0 m1 m2 m3 m4 m5 m6)
      · rw [if_neg hq2] at hr
        cases hr
    · rw [if_neg z0] at hr
      by_cases z1 : vk z = 1
      · rw [if_pos z1] at hr
        match q, hst, hr, hq, l5 with
        | [], hst, hr, hq, l5 => exact absurd hr (by rw [if_neg (by decide)]; exact fun z => by cases z)
        | x :: r, hst, hr, hq, l5 =>
          have hr : hrun 25 L (r.length + 1) = some 1 := by rw [← hr]; exact (if_pos (Nat.succ_le_succ (Nat.zero_le _))).symm
          have hvs : vs me ti ou z (x :: r) = vnot x :: r := by unfold vs; rw [if_neg z0, if_pos z1]
          rw [hvs]
          rw [vk_1 z1] at k1
          have hq' : r.length + 1 ≤ 25 := hq
          have l5' : en_ld cl 5 = some (.inl (r.length + 1)) := l5
          have kx : ai_hv t0 297 (r.length + 1 - 1) = some (.inl x) := hst.1
          exact pv296_not d n g0 l0 l1 l2 l3 l4 l5' l6 ks hs (by first | decide | omega) hq' hme hti hou k1 (by first | decide | omega) kx hst.2.1 (fun cl' t' g' e' k' m0 m1 m2 m3 m4 m5 m6 => pv296_l d n hmo hme hti hou kb hs L (i + 1) (vnot x :: r) cl' t' c3 (by first | decide | omega) hvL hr hq' g' (fun c j h9 => (e' c j (by first | decide | omega)).trans (e0 c j h9)) ⟨k', vnot_lt, stk_keep hst.2.2 (fun j hj => e' 297 j (by first | decide | omega))⟩ m0 m1 m2 m3 m4 m5 m6)
      · rw [if_neg z1] at hr
        match q, hst, hr, hq, l5 with
        | [], hst, hr, hq, l5 => exact absurd hr (by rw [if_neg (by decide)]; exact fun z => by cases z)
        | [x], hst, hr, hq, l5 => exact absurd hr (by rw [if_neg (show ¬ 2 ≤ [x].length from (by show ¬ 2 ≤ 1; decide))]; exact fun z => by cases z)
        | y :: x :: r, hst, hr, hq, l5 =>
          have hr : hrun 25 L (r.length + 1) = some 1 := by rw [← hr]; exact (if_pos (Nat.succ_le_succ (Nat.succ_le_succ (Nat.zero_le _)))).symm
          have hvs : vs me ti ou z (y :: x :: r) = vb (opm z) x y :: r := by unfold vs; rw [if_neg z0, if_neg z1]
          rw [hvs]
          have hzz := vo_cd z0 z1
          have hq' : r.length + 1 + 1 ≤ 25 := hq
          have l5' : en_ld cl 5 = some (.inl (r.length + 1 + 1)) := l5
          have ky : ai_hv t0 297 (r.length + 1 + 1 - 1) = some (.inl y) := hst.1
          have kx : ai_hv t0 297 (r.length + 1 + 1 - 1 - 1) = some (.inl x) := hst.2.2.1
          exact pv296_bin d n g0 l0 l1 l2 l3 l4 l5' l6 ks hs (by first | decide | omega) hq' hme hti hou (by first | decide | omega) k1 (by first | decide | omega) ky hst.2.1 kx hst.2.2.2.1 (fun cl' t' g' e' k' m0 m1 m2 m3 m4 m5 m6 => pv296_l d n hmo hme hti hou kb hs L (i + 1) (vb (opm z) x y :: r) cl' t' c3 (by first | decide | omega) hvL hr (by show r.length + 1 ≤ 25; omega) g' (fun c j h9 => (e' c j (by first | decide | omega)).trans (e0 c j h9)) ⟨k', vb_lt, stk_keep hst.2.2.2.2 (fun j hj => e' 297 j (by first | decide | omega))⟩ m0 m1 m2 m3 m4 m5 m6)
theorem pc_value296 (d n : Nat) {t0 : en_H} {mo me ti ou : Nat} {L : List Nat} (g0 : ai_HG ah_G t0) (hmo : mo < 2147483648) (hme : me < 4294967296) (hti : ti < 4294967296) (hou : ou < 4294967296) (kb : ai_hv t0 296 2 = some (.inl L.length)) (hs : L.length ≤ 1000) (hc : cco t0 296 0 L) (hv : ∀ z, z ∈ L → ∃ fh, vo fh z) (hr : hrun 25 L 0 = some 1) : ∃ r, en_u (d + 2) 210 [gx_r 296, .inl mo, .inl me, .inl ti, .inl ou] t0 n = some r ∧ ∃ v t', r = (some (.inl (vcl mo v)), t', n, 0) ∧ vrun me ti ou L [] = [v] ∧ v < 4294967296 ∧ ai_HG ah_G t' ∧ (∀ c i, c ≠ 297 → ai_hv t' c i = ai_hv t0 c i) := by
  refine en_u_ex (d := d + 1) rfl ?_
  show en_ex _ _ _ _ (0, [(0, gx_r 296), (1, .inl mo), (2, .inl me), (3, .inl ti), (4, .inl ou)], [], t0, n, 0) _
  refine ex_go (S := (1, [(0, gx_r 296), (1, .inl mo), (2, .inl me), (3, .inl ti), (4, .inl ou)], [.inl 0], t0, n, 0)) rfl (fun _ => rfl) rfl ?_
  refine ex_go (S := (3, [(5, .inl 0), (0, gx_r 296), (1, .inl mo), (2, .inl me), (3, .inl ti), (4, .inl ou)], [], t0, n, 0)) rfl (fun _ => rfl) rfl ?_
  refine ex_go (S := (4, [(5, .inl 0), (0, gx_r 296), (1, .inl mo), (2, .inl me), (3, .inl ti), (4, .inl ou)], [.inl 0], t0, n, 0)) rfl (fun _ => rfl) rfl ?_
  refine ex_go (S := (6, [(6, .inl 0), (5, .inl 0), (0, gx_r 296), (1, .inl mo), (2, .inl me), (3, .inl ti), (4, .inl ou)], [], t0, n, 0)) rfl (fun _ => rfl) rfl ?_
  exact ex_imp (fun o9 h9 => by
    obtain ⟨v, t1, h8, h7⟩ := h9
    exact ⟨_, h8, v, t1, rfl, h7⟩) (pv296_l d n hmo hme hti hou kb hs L 0 [] _ t0 hc (Nat.zero_add _) hv hr (by decide) g0 (fun c i h => rfl) trivial rfl rfl rfl rfl rfl rfl rfl)
theorem pv299_val (d n : Nat) {t0 : en_H} {cl : en_L} {mo me ti ou h i s z : Nat} {Q : en_O → Prop} (g0 : ai_HG ah_G t0) (h0 : en_ld cl 0 = some (gx_r 299)) (hm : en_ld cl 1 = some (.inl mo)) (ha : en_ld cl 2 = some (.inl me)) (hb : en_ld cl 3 = some (.inl ti)) (ho4 : en_ld cl 4 = some (.inl ou)) (h5 : en_ld cl 5 = some (.inl h)) (h6 : en_ld cl 6 = some (.inl i)) (ks : ai_hv t0 299 2 = some (.inl s)) (hs : s ≤ 1000) (hi : i < s) (hh : h ≤ 25) (hme : me < 4294967296) (hti : ti < 4294967296) (hou : ou < 4294967296) (hz : z < 2147483648 ∨ z = 4294967286 ∨ z = 4294967287 ∨ z = 4294967285) (kz : ai_hv t0 301 i = some (.inl z)) (hh2 : h < 25) (hQ : ∀ cl' t', ai_HG ah_G t' → (∀ c j, ¬ (c = 300 ∧ j = h) → ai_hv t' c j = ai_hv t0 c j) → ai_hv t' 300 (h) = some (.inl (vpt me ti ou z)) → en_ld cl' 0 = some (gx_r 299) → en_ld cl' 1 = some (.inl mo) → en_ld cl' 2 = some (.inl me) → en_ld cl' 3 = some (.inl ti) → en_ld cl' 4 = some (.inl ou) → en_ld cl' 5 = some (.inl (h + 1)) → en_ld cl' 6 = some (.inl (i + 1)) → en_ex none (en_u (d + 1)) (en_code 210) (fun _ => false) (6, cl', [], t', n, 0) Q) : en_ex none (en_u (d + 1)) (en_code 210) (fun _ => false) (6, cl, [], t0, n, 0) Q := by
  rcases hz with hz | rfl | rfl | rfl
  · refine gx_ld (i := 6) (d := 0) (v := .inl i) rfl (fun _ => rfl) h6 rfl rfl ?_
    refine gx_ld (i := 0) (d := 2) (v := gx_r 299) rfl (fun _ => rfl) h0 rfl rfl ?_
    refine gxo_get (a := 299) rfl g0 rfl rfl ks rfl ?_
    refine gx_2f (c := .ge) rfl (by first | decide | omega) (by first | decide | omega) (show ¬ (s ≤ i) from by omega) rfl ?_
    refine gx_ld (i := 0) (d := 2) (v := gx_r 299) rfl (fun _ => rfl) h0 rfl rfl ?_
    refine gxo_ref (a := 299) (c := 301) rfl g0 rfl rfl rfl rfl rfl ?_
    refine gx_ld (i := 6) (d := 0) (v := .inl i) rfl (fun _ => rfl) h6 rfl rfl ?_
    refine gx_ag (v := .inl z) (cb := fun c => Nat.beq c 0) rfl (fun _ => rfl) g0 rfl rfl kz (by first | decide | omega) rfl ?_
    refine gx_sto (i := 7) (d := 0) rfl (fun _ => rfl) rfl rfl (fun l1 hl1 ml1 => ?_)
    have l1_0 : en_ld l1 0 = some (gx_r 299) := ml1 0 _ h0 rfl
    have l1_1 : en_ld l1 1 = some (.inl mo) := ml1 1 _ hm rfl
    have l1_2 : en_ld l1 2 = some (.inl me) := ml1 2 _ ha rfl
    have l1_3 : en_ld l1 3 = some (.inl ti) := ml1 3 _ hb rfl
    have l1_4 : en_ld l1 4 = some (.inl ou) := ml1 4 _ ho4 rfl
    have l1_5 : en_ld l1 5 = some (.inl h) := ml1 5 _ h5 rfl
    have l1_6 : en_ld l1 6 = some (.inl i) := ml1 6 _ h6 rfl
    refine gx_ld (i := 7) (d := 0) (v := .inl z) rfl (fun _ => rfl) hl1 rfl rfl ?_
    refine ex_go (S := (27, l1, [.inl 4294967295, .inl z], t0, n, 0)) rfl (fun _ => rfl) rfl ?_
    refine gx_2mt (c := .ne) rfl (by first | decide | omega) rfl rfl ?_
    refine gx_ld (i := 7) (d := 0) (v := .inl z) rfl (fun _ => rfl) hl1 rfl rfl ?_
    refine gx_1t (c := .ge) rfl (by first | decide | omega) (show 0 ≤ z from by omega) rfl ?_
    refine gx_ld (i := 5) (d := 0) (v := .inl h) rfl (fun _ => rfl) l1_5 rfl rfl ?_
    refine gx_ld (i := 0) (d := 2) (v := gx_r 299) rfl (fun _ => rfl) l1_0 rfl rfl ?_
    refine gxo_ref (a := 299) (c := 300) rfl g0 rfl rfl rfl rfl rfl ?_
    refine gx_alen (a := 300) (m := 25) rfl g0 rfl rfl rfl ?_
    refine gx_2f (c := .ge) rfl (by first | decide | omega) (by first | decide | omega) (show ¬ (25 ≤ h) from by omega) rfl ?_
    refine gx_ld (i := 0) (d := 2) (v := gx_r 299) rfl (fun _ => rfl) l1_0 rfl rfl ?_
    refine gxo_ref (a := 299) (c := 300) rfl g0 rfl rfl rfl rfl rfl ?_
    refine gx_ld (i := 5) (d := 0) (v := .inl h) rfl (fun _ => rfl) l1_5 rfl rfl ?_
    refine gx_ld (i := 7) (d := 0) (v := .inl z) rfl (fun _ => rfl) hl1 rfl rfl ?_
    refine gx_ld (i := 2) (d := 0) (v := .inl me) rfl (fun _ => rfl) l1_2 rfl rfl ?_
    refine gx_ld (i := 3) (d := 0) (v := .inl ti) rfl (fun _ => rfl) l1_3 rfl rfl ?_
    refine gx_ld (i := 4) (d := 0) (v := .inl ou) rfl (fun _ => rfl) l1_4 rfl rfl ?_
    have hvp : vpt me ti ou z < 4294967296 := vpt_lt hme hti hou (by first | decide | omega)
    refine ex_stat rfl rfl rfl rfl rfl (pc_part d n (t0 := t0) (z := z) (me := me) (ti := ti) (ou := ou) (by first | decide | omega)) (Nat.le_refl _) rfl ?_
    show en_ex _ _ _ _ (143, l1, [.inl (vpt me ti ou z), .inl h, gx_r 300], t0, n, 0) _
    refine gx_ap rfl (fun _ => rfl) g0 rfl rfl rfl (show h < 25 from by omega) (gx_run1 (show h < 25 from by omega)) (gx_full (by first | decide | omega)) rfl (fun t102 g102 k102 e102 => ?_)
    have k3 : ai_hv t102 299 2 = some (.inl s) := (e102 299 2 (by first | decide | omega)).trans ks
    have k4 : ai_hv t102 301 i = some (.inl z) := (e102 301 i (by first | decide | omega)).trans kz
    refine gx_incS (i := 5) (a := h) (x := 1) rfl (fun _ => rfl) l1_5 (by first | decide | omega) rfl (fun l5 hl5 ml5 => ?_)
    have l5_0 : en_ld l5 0 = some (gx_r 299) := ml5 0 _ l1_0 rfl
    have l5_1 : en_ld l5 1 = some (.inl mo) := ml5 1 _ l1_1 rfl
    have l5_2 : en_ld l5 2 = some (.inl me) := ml5 2 _ l1_2 rfl
    have l5_3 : en_ld l5 3 = some (.inl ti) := ml5 3 _ l1_3 rfl
    have l5_4 : en_ld l5 4 = some (.inl ou) := ml5 4 _ l1_4 rfl
    have l5_6 : en_ld l5 6 = some (.inl i) := ml5 6 _ l1_6 rfl
    have l5_7 : en_ld l5 7 = some (.inl z) := ml5 7 _ hl1 rfl
    refine gx_incS (i := 6) (a := i) (x := 1) rfl (fun _ => rfl) l5_6 (by first | decide | omega) rfl (fun l6 hl6 ml6 => ?_)
    have l6_0 : en_ld l6 0 = some (gx_r 299) := ml6 0 _ l5_0 rfl
    have l6_1 : en_ld l6 1 = some (.inl mo) := ml6 1 _ l5_1 rfl
    have l6_2 : en_ld l6 2 = some (.inl me) := ml6 2 _ l5_2 rfl
    have l6_3 : en_ld l6 3 = some (.inl ti) := ml6 3 _ l5_3 rfl
    have l6_4 : en_ld l6 4 = some (.inl ou) := ml6 4 _ l5_4 rfl
    have l6_7 : en_ld l6 7 = some (.inl z) := ml6 7 _ l5_7 rfl
    have l6_5 : en_ld l6 5 = some (.inl (h + 1)) := ml6 5 _ hl5 rfl
    refine ex_go (S := (6, l6, [], t102, n, 0)) rfl (fun _ => rfl) rfl ?_
    exact hQ _ t102 g102 (fun c j h9 => e102 c j (by first | decide | omega)) k102 l6_0 l6_1 l6_2 l6_3 l6_4 l6_5 hl6
  · refine gx_ld (i := 6) (d := 0) (v := .inl i) rfl (fun _ => rfl) h6 rfl rfl ?_
    refine gx_ld (i := 0) (d := 2) (v := gx_r 299) rfl (fun _ => rfl) h0 rfl rfl ?_
    refine gxo_get (a := 299) rfl g0 rfl rfl ks rfl ?_
    refine gx_2f (c := .ge) rfl (by first | decide | omega) (by first | decide | omega) (show ¬ (s ≤ i) from by omega) rfl ?_
    refine gx_ld (i := 0) (d := 2) (v := gx_r 299) rfl (fun _ => rfl) h0 rfl rfl ?_
    refine gxo_ref (a := 299) (c := 301) rfl g0 rfl rfl rfl rfl rfl ?_
    refine gx_ld (i := 6) (d := 0) (v := .inl i) rfl (fun _ => rfl) h6 rfl rfl ?_
    refine gx_ag (v := .inl 4294967286) (cb := fun c => Nat.beq c 0) rfl (fun _ => rfl) g0 rfl rfl kz (by first | decide | omega) rfl ?_
    refine gx_sto (i := 7) (d := 0) rfl (fun _ => rfl) rfl rfl (fun l1 hl1 ml1 => ?_)
    have l1_0 : en_ld l1 0 = some (gx_r 299) := ml1 0 _ h0 rfl
    have l1_1 : en_ld l1 1 = some (.inl mo) := ml1 1 _ hm rfl
    have l1_2 : en_ld l1 2 = some (.inl me) := ml1 2 _ ha rfl
    have l1_3 : en_ld l1 3 = some (.inl ti) := ml1 3 _ hb rfl
    have l1_4 : en_ld l1 4 = some (.inl ou) := ml1 4 _ ho4 rfl
    have l1_5 : en_ld l1 5 = some (.inl h) := ml1 5 _ h5 rfl
    have l1_6 : en_ld l1 6 = some (.inl i) := ml1 6 _ h6 rfl
    refine gx_ld (i := 7) (d := 0) (v := .inl 4294967286) rfl (fun _ => rfl) hl1 rfl rfl ?_
    refine ex_go (S := (27, l1, [.inl 4294967295, .inl 4294967286], t0, n, 0)) rfl (fun _ => rfl) rfl ?_
    refine ex_go (S := (64, l1, [], t0, n, 0)) rfl (fun _ => rfl) rfl ?_
    refine gx_ld (i := 7) (d := 0) (v := .inl 4294967286) rfl (fun _ => rfl) hl1 rfl rfl ?_
    refine ex_go (S := (69, l1, [], t0, n, 0)) rfl (fun _ => rfl) rfl ?_
    refine gx_ld (i := 7) (d := 0) (v := .inl 4294967286) rfl (fun _ => rfl) hl1 rfl rfl ?_
    refine ex_go (S := (73, l1, [.inl 4294967288, .inl 4294967286], t0, n, 0)) rfl (fun _ => rfl) rfl ?_
    refine ex_go (S := (118, l1, [], t0, n, 0)) rfl (fun _ => rfl) rfl ?_
    refine gx_ld (i := 5) (d := 0) (v := .inl h) rfl (fun _ => rfl) l1_5 rfl rfl ?_
    refine gx_ld (i := 0) (d := 2) (v := gx_r 299) rfl (fun _ => rfl) l1_0 rfl rfl ?_
    refine gxo_ref (a := 299) (c := 300) rfl g0 rfl rfl rfl rfl rfl ?_
    refine gx_alen (a := 300) (m := 25) rfl g0 rfl rfl rfl ?_
    refine gx_2f (c := .ge) rfl (by first | decide | omega) (by first | decide | omega) (show ¬ (25 ≤ h) from by omega) rfl ?_
    refine gx_ld (i := 0) (d := 2) (v := gx_r 299) rfl (fun _ => rfl) l1_0 rfl rfl ?_
    refine gxo_ref (a := 299) (c := 300) rfl g0 rfl rfl rfl rfl rfl ?_
    refine gx_ld (i := 5) (d := 0) (v := .inl h) rfl (fun _ => rfl) l1_5 rfl rfl ?_
    refine gx_ld (i := 7) (d := 0) (v := .inl 4294967286) rfl (fun _ => rfl) hl1 rfl rfl ?_
    refine gx_ld (i := 2) (d := 0) (v := .inl me) rfl (fun _ => rfl) l1_2 rfl rfl ?_
    refine gx_ld (i := 3) (d := 0) (v := .inl ti) rfl (fun _ => rfl) l1_3 rfl rfl ?_
    refine gx_ld (i := 4) (d := 0) (v := .inl ou) rfl (fun _ => rfl) l1_4 rfl rfl ?_
    have hvp : vpt me ti ou 4294967286 < 4294967296 := vpt_lt hme hti hou (by first | decide | omega)
    refine ex_stat rfl rfl rfl rfl rfl (pc_part d n (t0 := t0) (z := 4294967286) (me := me) (ti := ti) (ou := ou) (by first | decide | omega)) (Nat.le_refl _) rfl ?_
    show en_ex _ _ _ _ (143, l1, [.inl (vpt me ti ou 4294967286), .inl h, gx_r 300], t0, n, 0) _
    refine gx_ap rfl (fun _ => rfl) g0 rfl rfl rfl (show h < 25 from by omega) (gx_run1 (show h < 25 from by omega)) (gx_full (by first | decide | omega)) rfl (fun t102 g102 k102 e102 => ?_)
    have k3 : ai_hv t102 299 2 = some (.inl s) := (e102 299 2 (by first | decide | omega)).trans ks
    have k4 : ai_hv t102 301 i = some (.inl 4294967286) := (e102 301 i (by first | decide | omega)).trans kz
    refine gx_incS (i := 5) (a := h) (x := 1) rfl (fun _ => rfl) l1_5 (by first | decide | omega) rfl (fun l5 hl5 ml5 => ?_)
    have l5_0 : en_ld l5 0 = some (gx_r 299) := ml5 0 _ l1_0 rfl
    have l5_1 : en_ld l5 1 = some (.inl mo) := ml5 1 _ l1_1 rfl
    have l5_2 : en_ld l5 2 = some (.inl me) := ml5 2 _ l1_2 rfl
    have l5_3 : en_ld l5 3 = some (.inl ti) := ml5 3 _ l1_3 rfl
    have l5_4 : en_ld l5 4 = some (.inl ou) := ml5 4 _ l1_4 rfl
    have l5_6 : en_ld l5 6 = some (.inl i) := ml5 6 _ l1_6 rfl
    have l5_7 : en_ld l5 7 = some (.inl 4294967286) := ml5 7 _ hl1 rfl
    refine gx_incS (i := 6) (a := i) (x := 1) rfl (fun _ => rfl) l5_6 (by first | decide | omega) rfl (fun l6 hl6 ml6 => ?_)
    have l6_0 : en_ld l6 0 = some (gx_r 299) := ml6 0 _ l5_0 rfl
    have l6_1 : en_ld l6 1 = some (.inl mo) := ml6 1 _ l5_1 rfl
    have l6_2 : en_ld l6 2 = some (.inl me) := ml6 2 _ l5_2 rfl
    have l6_3 : en_ld l6 3 = some (.inl ti) := ml6 3 _ l5_3 rfl
    have l6_4 : en_ld l6 4 = some (.inl ou) := ml6 4 _ l5_4 rfl
    have l6_7 : en_ld l6 7 = some (.inl 4294967286) := ml6 7 _ l5_7 rfl
    have l6_5 : en_ld l6 5 = some (.inl (h + 1)) := ml6 5 _ hl5 rfl
    refine ex_go (S := (6, l6, [], t102, n, 0)) rfl (fun _ => rfl) rfl ?_
    exact hQ _ t102 g102 (fun c j h9 => e102 c j (by first | decide | omega)) k102 l6_0 l6_1 l6_2 l6_3 l6_4 l6_5 hl6
  · refine gx_ld (i := 6) (d := 0) (v := .inl i) rfl (fun _ => rfl) h6 rfl rfl ?_
    refine gx_ld (i := 0) (d := 2) (v := gx_r 299) rfl (fun _ => rfl) h0 rfl rfl ?_
    refine gxo_get (a := 299) rfl g0 rfl rfl ks rfl ?_
    refine gx_2f (c := .ge) rfl (by first | decide | omega) (by first | decide | omega) (show ¬ (s ≤ i) from by omega) rfl ?_
    refine gx_ld (i := 0) (d := 2) (v := gx_r 299) rfl (fun _ => rfl) h0 rfl rfl ?_
    refine gxo_ref (a := 299) (c := 301) rfl g0 rfl rfl rfl rfl rfl ?_
    refine gx_ld (i := 6) (d := 0) (v := .inl i) rfl (fun _ => rfl) h6 rfl rfl ?_
    refine gx_ag (v := .inl 4294967287) (cb := fun c => Nat.beq c 0) rfl (fun _ => rfl) g0 rfl rfl kz (by first | decide | omega) rfl ?_
    refine gx_sto (i := 7) (d := 0) rfl (fun _ => rfl) rfl rfl (fun l1 hl1 ml1 => ?_)
    have l1_0 : en_ld l1 0 = some (gx_r 299) := ml1 0 _ h0 rfl
    have l1_1 : en_ld l1 1 = some (.inl mo) := ml1 1 _ hm rfl
    have l1_2 : en_ld l1 2 = some (.inl me) := ml1 2 _ ha rfl
    have l1_3 : en_ld l1 3 = some (.inl ti) := ml1 3 _ hb rfl
    have l1_4 : en_ld l1 4 = some (.inl ou) := ml1 4 _ ho4 rfl
    have l1_5 : en_ld l1 5 = some (.inl h) := ml1 5 _ h5 rfl
    have l1_6 : en_ld l1 6 = some (.inl i) := ml1 6 _ h6 rfl
    refine gx_ld (i := 7) (d := 0) (v := .inl 4294967287) rfl (fun _ => rfl) hl1 rfl rfl ?_
    refine ex_go (S := (27, l1, [.inl 4294967295, .inl 4294967287], t0, n, 0)) rfl (fun _ => rfl) rfl ?_
    refine ex_go (S := (64, l1, [], t0, n, 0)) rfl (fun _ => rfl) rfl ?_
    refine gx_ld (i := 7) (d := 0) (v := .inl 4294967287) rfl (fun _ => rfl) hl1 rfl rfl ?_
    refine ex_go (S := (69, l1, [], t0, n, 0)) rfl (fun _ => rfl) rfl ?_
    refine gx_ld (i := 7) (d := 0) (v := .inl 4294967287) rfl (fun _ => rfl) hl1 rfl rfl ?_
    refine ex_go (S := (73, l1, [.inl 4294967288, .inl 4294967287], t0, n, 0)) rfl (fun _ => rfl) rfl ?_
    refine ex_go (S := (118, l1, [], t0, n, 0)) rfl (fun _ => rfl) rfl ?_
    refine gx_ld (i := 5) (d := 0) (v := .inl h) rfl (fun _ => rfl) l1_5 rfl rfl ?_
    refine gx_ld (i := 0) (d := 2) (v := gx_r 299) rfl (fun _ => rfl) l1_0 rfl rfl ?_
    refine gxo_ref (a := 299) (c := 300) rfl g0 rfl rfl rfl rfl rfl ?_
    refine gx_alen (a := 300) (m := 25) rfl g0 rfl rfl rfl ?_
    refine gx_2f (c := .ge) rfl (by first | decide | omega) (by first | decide | omega) (show ¬ (25 ≤ h) from by omega) rfl ?_
    refine gx_ld (i := 0) (d := 2) (v := gx_r 299) rfl (fun _ => rfl) l1_0 rfl rfl ?_
    refine gxo_ref (a := 299) (c := 300) rfl g0 rfl rfl rfl rfl rfl ?_
    refine gx_ld (i := 5) (d := 0) (v := .inl h) rfl (fun _ => rfl) l1_5 rfl rfl ?_
    refine gx_ld (i := 7) (d := 0) (v := .inl 4294967287) rfl (fun _ => rfl) hl1 rfl rfl ?_
    refine gx_ld (i := 2) (d := 0) (v := .inl me) rfl (fun _ => rfl) l1_2 rfl rfl ?_
    refine gx_ld (i := 3) (d := 0) (v := .inl ti) rfl (fun _ => rfl) l1_3 rfl rfl ?_
    refine gx_ld (i := 4) (d := 0) (v := .inl ou) rfl (fun _ => rfl) l1_4 rfl rfl ?_
    have hvp : vpt me ti ou 4294967287 < 4294967296 := vpt_lt hme hti hou (by first | decide | omega)
    refine ex_stat rfl rfl rfl rfl rfl (pc_part d n (t0 := t0) (z := 4294967287) (me := me) (ti := ti) (ou := ou) (by first | decide | omega)) (Nat.le_refl _) rfl ?_
    show en_ex _ _ _ _ (143, l1, [.inl (vpt me ti ou 4294967287), .inl h, gx_r 300], t0, n, 0) _
    refine gx_ap rfl (fun _ => rfl) g0 rfl rfl rfl (show h < 25 from by omega) (gx_run1 (show h < 25 from by omega)) (gx_full (by first | decide | omega)) rfl (fun t102 g102 k102 e102 => ?_)
    have k3 : ai_hv t102 299 2 = some (.inl s) := (e102 299 2 (by first | decide | omega)).trans ks
    have k4 : ai_hv t102 301 i = some (.inl 4294967287) := (e102 301 i (by first | decide | omega)).trans kz
    refine gx_incS (i := 5) (a := h) (x := 1) rfl (fun _ => rfl) l1_5 (by first | decide | omega) rfl (fun l5 hl5 ml5 => ?_)
    have l5_0 : en_ld l5 0 = some (gx_r 299) := ml5 0 _ l1_0 rfl
    have l5_1 : en_ld l5 1 = some (.inl mo) := ml5 1 _ l1_1 rfl
    have l5_2 : en_ld l5 2 = some (.inl me) := ml5 2 _ l1_2 rfl
    have l5_3 : en_ld l5 3 = some (.inl ti) := ml5 3 _ l1_3 rfl
    have l5_4 : en_ld l5 4 = some (.inl ou) := ml5 4 _ l1_4 rfl
    have l5_6 : en_ld l5 6 = some (.inl i) := ml5 6 _ l1_6 rfl
    have l5_7 : en_ld l5 7 = some (.inl 4294967287) := ml5 7 _ hl1 rfl
    refine gx_incS (i := 6) (a := i) (x := 1) rfl (fun _ => rfl) l5_6 (by first | decide | omega) rfl (fun l6 hl6 ml6 => ?_)
    have l6_0 : en_ld l6 0 = some (gx_r 299) := ml6 0 _ l5_0 rfl
    have l6_1 : en_ld l6 1 = some (.inl mo) := ml6 1 _ l5_1 rfl
    have l6_2 : en_ld l6 2 = some (.inl me) := ml6 2 _ l5_2 rfl
    have l6_3 : en_ld l6 3 = some (.inl ti) := ml6 3 _ l5_3 rfl
    have l6_4 : en_ld l6 4 = some (.inl ou) := ml6 4 _ l5_4 rfl
    have l6_7 : en_ld l6 7 = some (.inl 4294967287) := ml6 7 _ l5_7 rfl
    have l6_5 : en_ld l6 5 = some (.inl (h + 1)) := ml6 5 _ hl5 rfl
    refine ex_go (S := (6, l6, [], t102, n, 0)) rfl (fun _ => rfl) rfl ?_
    exact hQ _ t102 g102 (fun c j h9 => e102 c j (by first | decide | omega)) k102 l6_0 l6_1 l6_2 l6_3 l6_4 l6_5 hl6
  · refine gx_ld (i := 6) (d := 0) (v := .inl i) rfl (fun _ => rfl) h6 rfl rfl ?_
    refine gx_ld (i := 0) (d := 2) (v := gx_r 299) rfl (fun _ => rfl) h0 rfl rfl ?_
    refine gxo_get (a := 299) rfl g0 rfl rfl ks rfl ?_
    refine gx_2f (c := .ge) rfl (by first | decide | omega) (by first | decide | omega) (show ¬ (s ≤ i) from by omega) rfl ?_
    refine gx_ld (i := 0) (d := 2) (v := gx_r 299) rfl (fun _ => rfl) h0 rfl rfl ?_
    refine gxo_ref (a := 299) (c := 301) rfl g0 rfl rfl rfl rfl rfl ?_
    refine gx_ld (i := 6) (d := 0) (v := .inl i) rfl (fun _ => rfl) h6 rfl rfl ?_
    refine gx_ag (v := .inl 4294967285) (cb := fun c => Nat.beq c 0) rfl (fun _ => rfl) g0 rfl rfl kz (by first | decide | omega) rfl ?_
    refine gx_sto (i := 7) (d := 0) rfl (fun _ => rfl) rfl rfl (fun l1 hl1 ml1 => ?_)
    have l1_0 : en_ld l1 0 = some (gx_r 299) := ml1 0 _ h0 rfl
    have l1_1 : en_ld l1 1 = some (.inl mo) := ml1 1 _ hm rfl
    have l1_2 : en_ld l1 2 = some (.inl me) := ml1 2 _ ha rfl
    have l1_3 : en_ld l1 3 = some (.inl ti) := ml1 3 _ hb rfl
    have l1_4 : en_ld l1 4 = some (.inl ou) := ml1 4 _ ho4 rfl
    have l1_5 : en_ld l1 5 = some (.inl h) := ml1 5 _ h5 rfl
    have l1_6 : en_ld l1 6 = some (.inl i) := ml1 6 _ h6 rfl
    refine gx_ld (i := 7) (d := 0) (v := .inl 4294967285) rfl (fun _ => rfl) hl1 rfl rfl ?_
    refine ex_go (S := (27, l1, [.inl 4294967295, .inl 4294967285], t0, n, 0)) rfl (fun _ => rfl) rfl ?_
    refine ex_go (S := (64, l1, [], t0, n, 0)) rfl (fun _ => rfl) rfl ?_
    refine gx_ld (i := 7) (d := 0) (v := .inl 4294967285) rfl (fun _ => rfl) hl1 rfl rfl ?_
    refine ex_go (S := (69, l1, [], t0, n, 0)) rfl (fun _ => rfl) rfl ?_
    refine gx_ld (i := 7) (d := 0) (v := .inl 4294967285) rfl (fun _ => rfl) hl1 rfl rfl ?_
    refine ex_go (S := (73, l1, [.inl 4294967288, .inl 4294967285], t0, n, 0)) rfl (fun _ => rfl) rfl ?_
    refine ex_go (S := (118, l1, [], t0, n, 0)) rfl (fun _ => rfl) rfl ?_
    refine gx_ld (i := 5) (d := 0) (v := .inl h) rfl (fun _ => rfl) l1_5 rfl rfl ?_
    refine gx_ld (i := 0) (d := 2) (v := gx_r 299) rfl (fun _ => rfl) l1_0 rfl rfl ?_
    refine gxo_ref (a := 299) (c := 300) rfl g0 rfl rfl rfl rfl rfl ?_
    refine gx_alen (a := 300) (m := 25) rfl g0 rfl rfl rfl ?_
    refine gx_2f (c := .ge) rfl (by first | decide | omega) (by first | decide | omega) (show ¬ (25 ≤ h) from by omega) rfl ?_
    refine gx_ld (i := 0) (d := 2) (v := gx_r 299) rfl (fun _ => rfl) l1_0 rfl rfl ?_
    refine gxo_ref (a := 299) (c := 300) rfl g0 rfl rfl rfl rfl rfl ?_
    refine gx_ld (i := 5) (d := 0) (v := .inl h) rfl (fun _ => rfl) l1_5 rfl rfl ?_
    refine gx_ld (i := 7) (d := 0) (v := .inl 4294967285) rfl (fun _ => rfl) hl1 rfl rfl ?_
    refine gx_ld (i := 2) (d := 0) (v := .inl me) rfl (fun _ => rfl) l1_2 rfl rfl ?_
    refine gx_ld (i := 3) (d := 0) (v := .inl ti) rfl (fun _ => rfl) l1_3 rfl rfl ?_
    refine gx_ld (i := 4) (d := 0) (v := .inl ou) rfl (fun _ => rfl) l1_4 rfl rfl ?_
    have hvp : vpt me ti ou 4294967285 < 4294967296 := vpt_lt hme hti hou (by first | decide | omega)
    refine ex_stat rfl rfl rfl rfl rfl (pc_part d n (t0 := t0) (z := 4294967285) (me := me) (ti := ti) (ou := ou) (by first | decide | omega)) (Nat.le_refl _) rfl ?_
    show en_ex _ _ _ _ (143, l1, [.inl (vpt me ti ou 4294967285), .inl h, gx_r 300], t0, n, 0) _
    refine gx_ap rfl (fun _ => rfl) g0 rfl rfl rfl (show h < 25 from by omega) (gx_run1 (show h < 25 from by omega)) (gx_full (by first | decide | omega)) rfl (fun t102 g102 k102 e102 => ?_)
    have k3 : ai_hv t102 299 2 = some (.inl s) := (e102 299 2 (by first | decide | omega)).trans ks
    have k4 : ai_hv t102 301 i = some (.inl 4294967285) := (e102 301 i (by first | decide | omega)).trans kz
    refine gx_incS (i := 5) (a := h) (x := 1) rfl (fun _ => rfl) l1_5 (by first | decide | omega) rfl (fun l5 hl5 ml5 => ?_)
    have l5_0 : en_ld l5 0 = some (gx_r 299) := ml5 0 _ l1_0 rfl
    have l5_1 : en_ld l5 1 = some (.inl mo) := ml5 1 _ l1_1 rfl
    have l5_2 : en_ld l5 2 = some (.inl me) := ml5 2 _ l1_2 rfl
    have l5_3 : en_ld l5 3 = some (.inl ti) := ml5 3 _ l1_3 rfl
    have l5_4 : en_ld l5 4 = some (.inl ou) := ml5 4 _ l1_4 rfl
    have l5_6 : en_ld l5 6 = some (.inl i) := ml5 6 _ l1_6 rfl
    have l5_7 : en_ld l5 7 = some (.inl 4294967285) := ml5 7 _ hl1 rfl
    refine gx_incS (i := 6) (a := i) (x := 1) rfl (fun _ => rfl) l5_6 (by first | decide | omega) rfl (fun l6 hl6 ml6 => ?_)
    have l6_0 : en_ld l6 0 = some (gx_r 299) := ml6 0 _ l5_0 rfl
    have l6_1 : en_ld l6 1 = some (.inl mo) := ml6 1 _ l5_1 rfl
    have l6_2 : en_ld l6 2 = some (.inl me) := ml6 2 _ l5_2 rfl
    have l6_3 : en_ld l6 3 = some (.inl ti) := ml6 3 _ l5_3 rfl
    have l6_4 : en_ld l6 4 = some (.inl ou) := ml6 4 _ l5_4 rfl
    have l6_7 : en_ld l6 7 = some (.inl 4294967285) := ml6 7 _ l5_7 rfl
    have l6_5 : en_ld l6 5 = some (.inl (h + 1)) := ml6 5 _ hl5 rfl
    refine ex_go (S := (6, l6, [], t102, n, 0)) rfl (fun _ => rfl) rfl ?_
    exact hQ _ t102 g102 (fun c j h9 => e102 c j (by first | decide | omega)) k102 l6_0 l6_1 l6_2 l6_3 l6_4 l6_5 hl6
theorem pv299_not (d n : Nat) {t0 : en_H} {cl : en_L} {mo me ti ou h i s x : Nat} {Q : en_O → Prop} (g0 : ai_HG ah_G t0) (h0 : en_ld cl 0 = some (gx_r 299)) (hm : en_ld cl 1 = some (.inl mo)) (ha : en_ld cl 2 = some (.inl me)) (hb : en_ld cl 3 = some (.inl ti)) (ho4 : en_ld cl 4 = some (.inl ou)) (h5 : en_ld cl 5 = some (.inl h)) (h6 : en_ld cl 6 = some (.inl i)) (ks : ai_hv t0 299 2 = some (.inl s)) (hs : s ≤ 1000) (hi : i < s) (hh : h ≤ 25) (hme : me < 4294967296) (hti : ti < 4294967296) (hou : ou < 4294967296) (kz : ai_hv t0 301 i = some (.inl 4294967295)) (h1 : 1 ≤ h) (kx : ai_hv t0 300 (h - 1) = some (.inl x)) (hx : x < 4294967296) (hQ : ∀ cl' t', ai_HG ah_G t' → (∀ c j, ¬ (c = 300 ∧ j = h - 1) → ai_hv t' c j = ai_hv t0 c j) → ai_hv t' 300 (h - 1) = some (.inl (vnot x)) → en_ld cl' 0 = some (gx_r 299) → en_ld cl' 1 = some (.inl mo) → en_ld cl' 2 = some (.inl me) → en_ld cl' 3 = some (.inl ti) → en_ld cl' 4 = some (.inl ou) → en_ld cl' 5 = some (.inl (h)) → en_ld cl' 6 = some (.inl (i + 1)) → en_ex none (en_u (d + 1)) (en_code 210) (fun _ => false) (6, cl', [], t', n, 0) Q) : en_ex none (en_u (d + 1)) (en_code 210) (fun _ => false) (6, cl, [], t0, n, 0) Q := by
  refine gx_ld (i := 6) (d := 0) (v := .inl i) rfl (fun _ => rfl) h6 rfl rfl ?_
  refine gx_ld (i := 0) (d := 2) (v := gx_r 299) rfl (fun _ => rfl) h0 rfl rfl ?_
  refine gxo_get (a := 299) rfl g0 rfl rfl ks rfl ?_
  refine gx_2f (c := .ge) rfl (by first | decide | omega) (by first | decide | omega) (show ¬ (s ≤ i) from by omega) rfl ?_
  refine gx_ld (i := 0) (d := 2) (v := gx_r 299) rfl (fun _ => rfl) h0 rfl rfl ?_
  refine gxo_ref (a := 299) (c := 301) rfl g0 rfl rfl rfl rfl rfl ?_
  refine gx_ld (i := 6) (d := 0) (v := .inl i) rfl (fun _ => rfl) h6 rfl rfl ?_
  refine gx_ag (v := .inl 4294967295) (cb := fun c => Nat.beq c 0) rfl (fun _ => rfl) g0 rfl rfl kz (by first | decide | omega) rfl ?_
  refine gx_sto (i := 7) (d := 0) rfl (fun _ => rfl) rfl rfl (fun l1 hl1 ml1 => ?_)
  have l1_0 : en_ld l1 0 = some (gx_r 299) := ml1 0 _ h0 rfl
  have l1_1 : en_ld l1 1 = some (.inl mo) := ml1 1 _ hm rfl
  have l1_2 : en_ld l1 2 = some (.inl me) := ml1 2 _ ha rfl
  have l1_3 : en_ld l1 3 = some (.inl ti) := ml1 3 _ hb rfl
  have l1_4 : en_ld l1 4 = some (.inl ou) := ml1 4 _ ho4 rfl
  have l1_5 : en_ld l1 5 = some (.inl h) := ml1 5 _ h5 rfl
  have l1_6 : en_ld l1 6 = some (.inl i) := ml1 6 _ h6 rfl
  refine gx_ld (i := 7) (d := 0) (v := .inl 4294967295) rfl (fun _ => rfl) hl1 rfl rfl ?_
  refine ex_go (S := (27, l1, [.inl 4294967295, .inl 4294967295], t0, n, 0)) rfl (fun _ => rfl) rfl ?_
  refine ex_go (S := (30, l1, [], t0, n, 0)) rfl (fun _ => rfl) rfl ?_
  refine gx_ld (i := 5) (d := 0) (v := .inl h) rfl (fun _ => rfl) l1_5 rfl rfl ?_
  refine gx_1f (c := .le) rfl (by first | decide | omega) (show ¬ (h ≤ 0) from by omega) rfl ?_
  refine gx_ld (i := 0) (d := 2) (v := gx_r 299) rfl (fun _ => rfl) l1_0 rfl rfl ?_
  refine gxo_ref (a := 299) (c := 300) rfl g0 rfl rfl rfl rfl rfl ?_
  refine gx_ld (i := 5) (d := 0) (v := .inl h) rfl (fun _ => rfl) l1_5 rfl rfl ?_
  refine ex_go (S := (42, l1, [.inl 1, .inl h, gx_r 300], t0, n, 0)) rfl (fun _ => rfl) rfl ?_
  refine gx_isub rfl (by first | decide | omega) (by first | decide | omega) rfl ?_
  refine gx_ld (i := 0) (d := 2) (v := gx_r 299) rfl (fun _ => rfl) l1_0 rfl rfl ?_
  refine gxo_ref (a := 299) (c := 300) rfl g0 rfl rfl rfl rfl rfl ?_
  refine gx_ld (i := 5) (d := 0) (v := .inl h) rfl (fun _ => rfl) l1_5 rfl rfl ?_
  refine ex_go (S := (50, l1, [.inl 1, .inl h, gx_r 300, .inl (h - 1), gx_r 300], t0, n, 0)) rfl (fun _ => rfl) rfl ?_
  refine gx_isub rfl (by first | decide | omega) (by first | decide | omega) rfl ?_
  refine gx_ag (v := .inl x) (cb := fun c => Nat.beq c 0) rfl (fun _ => rfl) g0 rfl rfl kx (by first | decide | omega) rfl ?_
  refine gx_1r (c := .ne) rfl (by first | decide | omega) rfl rfl (fun hr2 => ?_) (fun hr2 => ?_)
  · show en_ex _ _ _ _ (59, l1, [.inl (h - 1), gx_r 300], t0, n, 0) _
    refine ex_go (S := (60, l1, [.inl 0, .inl (h - 1), gx_r 300], t0, n, 0)) rfl (fun _ => rfl) rfl ?_
    refine gx_ap rfl (fun _ => rfl) g0 rfl rfl rfl (show h - 1 < 25 from by omega) (gx_run1 (show h - 1 < 25 from by omega)) (gx_full (by first | decide | omega)) rfl (fun t103 g103 k103 e103 => ?_)
    have k4 : ai_hv t103 299 2 = some (.inl s) := (e103 299 2 (by first | decide | omega)).trans ks
    have k5 : ai_hv t103 301 i = some (.inl 4294967295) := (e103 301 i (by first | decide | omega)).trans kz
    refine ex_go (S := (147, l1, [], t103, n, 0)) rfl (fun _ => rfl) rfl ?_
    refine gx_incS (i := 6) (a := i) (x := 1) rfl (fun _ => rfl) l1_6 (by first | decide | omega) rfl (fun l6 hl6 ml6 => ?_)
    have l6_0 : en_ld l6 0 = some (gx_r 299) := ml6 0 _ l1_0 rfl
    have l6_1 : en_ld l6 1 = some (.inl mo) := ml6 1 _ l1_1 rfl
    have l6_2 : en_ld l6 2 = some (.inl me) := ml6 2 _ l1_2 rfl
    have l6_3 : en_ld l6 3 = some (.inl ti) := ml6 3 _ l1_3 rfl
    have l6_4 : en_ld l6 4 = some (.inl ou) := ml6 4 _ l1_4 rfl
    have l6_5 : en_ld l6 5 = some (.inl h) := ml6 5 _ l1_5 rfl
    have l6_7 : en_ld l6 7 = some (.inl 4294967295) := ml6 7 _ hl1 rfl
    refine ex_go (S := (6, l6, [], t103, n, 0)) rfl (fun _ => rfl) rfl ?_
    have hv9 : vnot x = 0 := cif_t hr2
    exact hQ _ t103 g103 (fun c j h9 => e103 c j (by first | decide | omega)) (by rw [hv9]; exact k103) l6_0 l6_1 l6_2 l6_3 l6_4 l6_5 hl6
  · show en_ex _ _ _ _ (55, l1, [.inl (h - 1), gx_r 300], t0, n, 0) _
    refine ex_go (S := (56, l1, [.inl 1, .inl (h - 1), gx_r 300], t0, n, 0)) rfl (fun _ => rfl) rfl ?_
    refine ex_go (S := (60, l1, [.inl 1, .inl (h - 1), gx_r 300], t0, n, 0)) rfl (fun _ => rfl) rfl ?_
    refine gx_ap rfl (fun _ => rfl) g0 rfl rfl rfl (show h - 1 < 25 from by omega) (gx_run1 (show h - 1 < 25 from by omega)) (gx_full (by first | decide | omega)) rfl (fun t107 g107 k107 e107 => ?_)
    have k8 : ai_hv t107 299 2 = some (.inl s) := (e107 299 2 (by first | decide | omega)).trans ks
    have k9 : ai_hv t107 301 i = some (.inl 4294967295) := (e107 301 i (by first | decide | omega)).trans kz
    refine ex_go (S := (147, l1, [], t107, n, 0)) rfl (fun _ => rfl) rfl ?_
    refine gx_incS (i := 6) (a := i) (x := 1) rfl (fun _ => rfl) l1_6 (by first | decide | omega) rfl (fun l10 hl10 ml10 => ?_)
    have l10_0 : en_ld l10 0 = some (gx_r 299) := ml10 0 _ l1_0 rfl
    have l10_1 : en_ld l10 1 = some (.inl mo) := ml10 1 _ l1_1 rfl
    have l10_2 : en_ld l10 2 = some (.inl me) := ml10 2 _ l1_2 rfl
    have l10_3 : en_ld l10 3 = some (.inl ti) := ml10 3 _ l1_3 rfl
    have l10_4 : en_ld l10 4 = some (.inl ou) := ml10 4 _ l1_4 rfl
    have l10_5 : en_ld l10 5 = some (.inl h) := ml10 5 _ l1_5 rfl
    have l10_7 : en_ld l10 7 = some (.inl 4294967295) := ml10 7 _ hl1 rfl
    refine ex_go (S := (6, l10, [], t107, n, 0)) rfl (fun _ => rfl) rfl ?_
    have hv9 : vnot x = 1 := cif_f hr2
    exact hQ _ t107 g107 (fun c j h9 => e107 c j (by first | decide | omega)) (by rw [hv9]; exact k107) l10_0 l10_1 l10_2 l10_3 l10_4 l10_5 hl10
theorem pv299_bin (d n : Nat) {t0 : en_H} {cl : en_L} {mo me ti ou h i s x y z : Nat} {Q : en_O → Prop} (g0 : ai_HG ah_G t0) (h0 : en_ld cl 0 = some (gx_r 299)) (hm : en_ld cl 1 = some (.inl mo)) (ha : en_ld cl 2 = some (.inl me)) (hb : en_ld cl 3 = some (.inl ti)) (ho4 : en_ld cl 4 = some (.inl ou)) (h5 : en_ld cl 5 = some (.inl h)) (h6 : en_ld cl 6 = some (.inl i)) (ks : ai_hv t0 299 2 = some (.inl s)) (hs : s ≤ 1000) (hi : i < s) (hh : h ≤ 25) (hme : me < 4294967296) (hti : ti < 4294967296) (hou : ou < 4294967296) (hz : z = 4294967290 ∨ z = 4294967289 ∨ z = 4294967288 ∨ z = 4294967292 ∨ z = 4294967291 ∨ z = 4294967294 ∨ z = 4294967293) (kz : ai_hv t0 301 i = some (.inl z)) (h1 : 2 ≤ h) (ky : ai_hv t0 300 (h - 1) = some (.inl y)) (hy : y < 4294967296) (kx : ai_hv t0 300 (h - 1 - 1) = some (.inl x)) (hx : x < 4294967296) (hQ : ∀ cl' t', ai_HG ah_G t' → (∀ c j, ¬ (c = 300 ∧ j = h - 1 - 1) → ai_hv t' c j = ai_hv t0 c j) → ai_hv t' 300 (h - 1 - 1) = some (.inl (vb (opm z) x y)) → en_ld cl' 0 = some (gx_r 299) → en_ld cl' 1 = some (.inl mo) → en_ld cl' 2 = some (.inl me) → en_ld cl' 3 = some (.inl ti) → en_ld cl' 4 = some (.inl ou) → en_ld cl' 5 = some (.inl (h - 1)) → en_ld cl' 6 = some (.inl (i + 1)) → en_ex none (en_u (d + 1)) (en_code 210) (fun _ => false) (6, cl', [], t', n, 0) Q) : en_ex none (en_u (d + 1)) (en_code 210) (fun _ => false) (6, cl, [], t0, n, 0) Q := by
  rcases hz with rfl | rfl | rfl | rfl | rfl | rfl | rfl
  · refine gx_ld (i := 6) (d := 0) (v := .inl i) rfl (fun _ => rfl) h6 rfl rfl ?_
    refine gx_ld (i := 0) (d := 2) (v := gx_r 299) rfl (fun _ => rfl) h0 rfl rfl ?_
    refine gxo_get (a := 299) rfl g0 rfl rfl ks rfl ?_
    refine gx_2f (c := .ge) rfl (by first | decide | omega) (by first | decide | omega) (show ¬ (s ≤ i) from by omega) rfl ?_
    refine gx_ld (i := 0) (d := 2) (v := gx_r 299) rfl (fun _ => rfl) h0 rfl rfl ?_
    refine gxo_ref (a := 299) (c := 301) rfl g0 rfl rfl rfl rfl rfl ?_
    refine gx_ld (i := 6) (d := 0) (v := .inl i) rfl (fun _ => rfl) h6 rfl rfl ?_
    refine gx_ag (v := .inl 4294967290) (cb := fun c => Nat.beq c 0) rfl (fun _ => rfl) g0 rfl rfl kz (by first | decide | omega) rfl ?_
    refine gx_sto (i := 7) (d := 0) rfl (fun _ => rfl) rfl rfl (fun l1 hl1 ml1 => ?_)
    have l1_0 : en_ld l1 0 = some (gx_r 299) := ml1 0 _ h0 rfl
    have l1_1 : en_ld l1 1 = some (.inl mo) := ml1 1 _ hm rfl
    have l1_2 : en_ld l1 2 = some (.inl me) := ml1 2 _ ha rfl
    have l1_3 : en_ld l1 3 = some (.inl ti) := ml1 3 _ hb rfl
    have l1_4 : en_ld l1 4 = some (.inl ou) := ml1 4 _ ho4 rfl
    have l1_5 : en_ld l1 5 = some (.inl h) := ml1 5 _ h5 rfl
    have l1_6 : en_ld l1 6 = some (.inl i) := ml1 6 _ h6 rfl
    refine gx_ld (i := 7) (d := 0) (v := .inl 4294967290) rfl (fun _ => rfl) hl1 rfl rfl ?_
    refine ex_go (S := (27, l1, [.inl 4294967295, .inl 4294967290], t0, n, 0)) rfl (fun _ => rfl) rfl ?_
    refine ex_go (S := (64, l1, [], t0, n, 0)) rfl (fun _ => rfl) rfl ?_
    refine gx_ld (i := 7) (d := 0) (v := .inl 4294967290) rfl (fun _ => rfl) hl1 rfl rfl ?_
    refine ex_go (S := (69, l1, [], t0, n, 0)) rfl (fun _ => rfl) rfl ?_
    refine gx_ld (i := 7) (d := 0) (v := .inl 4294967290) rfl (fun _ => rfl) hl1 rfl rfl ?_
    refine ex_go (S := (73, l1, [.inl 4294967288, .inl 4294967290], t0, n, 0)) rfl (fun _ => rfl) rfl ?_
    refine ex_go (S := (76, l1, [], t0, n, 0)) rfl (fun _ => rfl) rfl ?_
    refine gx_ld (i := 5) (d := 0) (v := .inl h) rfl (fun _ => rfl) l1_5 rfl rfl ?_
    refine ex_go (S := (79, l1, [.inl 1, .inl h], t0, n, 0)) rfl (fun _ => rfl) rfl ?_
    refine gx_2f (c := .le) rfl (by first | decide | omega) (by first | decide | omega) (show ¬ (h ≤ 1) from by omega) rfl ?_
    refine gx_decS (i := 5) (a := h) rfl (fun _ => rfl) l1_5 (by first | decide | omega) (by first | decide | omega) rfl (fun l2 hl2 ml2 => ?_)
    have l2_0 : en_ld l2 0 = some (gx_r 299) := ml2 0 _ l1_0 rfl
    have l2_1 : en_ld l2 1 = some (.inl mo) := ml2 1 _ l1_1 rfl
    have l2_2 : en_ld l2 2 = some (.inl me) := ml2 2 _ l1_2 rfl
    have l2_3 : en_ld l2 3 = some (.inl ti) := ml2 3 _ l1_3 rfl
    have l2_4 : en_ld l2 4 = some (.inl ou) := ml2 4 _ l1_4 rfl
    have l2_6 : en_ld l2 6 = some (.inl i) := ml2 6 _ l1_6 rfl
    have l2_7 : en_ld l2 7 = some (.inl 4294967290) := ml2 7 _ hl1 rfl
    refine gx_ld (i := 0) (d := 2) (v := gx_r 299) rfl (fun _ => rfl) l2_0 rfl rfl ?_
    refine gxo_ref (a := 299) (c := 300) rfl g0 rfl rfl rfl rfl rfl ?_
    refine gx_ld (i := 5) (d := 0) (v := .inl (h - 1)) rfl (fun _ => rfl) hl2 rfl rfl ?_
    refine ex_go (S := (92, l2, [.inl 1, .inl (h - 1), gx_r 300], t0, n, 0)) rfl (fun _ => rfl) rfl ?_
    refine gx_isub rfl (by first | decide | omega) (by first | decide | omega) rfl ?_
    refine gx_ld (i := 7) (d := 0) (v := .inl 4294967290) rfl (fun _ => rfl) l2_7 rfl rfl ?_
    refine gx_ld (i := 0) (d := 2) (v := gx_r 299) rfl (fun _ => rfl) l2_0 rfl rfl ?_
    refine gxo_ref (a := 299) (c := 300) rfl g0 rfl rfl rfl rfl rfl ?_
    refine gx_ld (i := 5) (d := 0) (v := .inl (h - 1)) rfl (fun _ => rfl) hl2 rfl rfl ?_
    refine ex_go (S := (102, l2, [.inl 1, .inl (h - 1), gx_r 300, .inl 4294967290, .inl ((h - 1) - 1), gx_r 300], t0, n, 0)) rfl (fun _ => rfl) rfl ?_
    refine gx_isub rfl (by first | decide | omega) (by first | decide | omega) rfl ?_
    refine gx_ag (v := .inl x) (cb := fun c => Nat.beq c 0) rfl (fun _ => rfl) g0 rfl rfl kx (by first | decide | omega) rfl ?_
    refine gx_ld (i := 0) (d := 2) (v := gx_r 299) rfl (fun _ => rfl) l2_0 rfl rfl ?_
    refine gxo_ref (a := 299) (c := 300) rfl g0 rfl rfl rfl rfl rfl ?_
    refine gx_ld (i := 5) (d := 0) (v := .inl (h - 1)) rfl (fun _ => rfl) hl2 rfl rfl ?_
    refine gx_ag (v := .inl y) (cb := fun c => Nat.beq c 0) rfl (fun _ => rfl) g0 rfl rfl ky (by first | decide | omega) rfl ?_
    have hvb := vb_lt (o := opm 4294967290) (a := x) (b := y)
    refine ex_stat rfl rfl rfl rfl rfl (pc_joined d n (t0 := t0) (z := 4294967290) (x := x) (y := y) (by first | decide | omega) (by first | decide | omega) (by first | decide | omega)) (Nat.le_refl _) rfl ?_
    show en_ex _ _ _ _ (114, l2, [.inl (vb (opm 4294967290) x y), .inl ((h - 1) - 1), gx_r 300], t0, n, 0) _
    refine gx_ap rfl (fun _ => rfl) g0 rfl rfl rfl (show (h - 1) - 1 < 25 from by omega) (gx_run1 (show (h - 1) - 1 < 25 from by omega)) (gx_full (by first | decide | omega)) rfl (fun t103 g103 k103 e103 => ?_)
    have k4 : ai_hv t103 300 (h - 1) = some (.inl y) := (e103 300 (h - 1) (by first | decide | omega)).trans ky
    have k5 : ai_hv t103 299 2 = some (.inl s) := (e103 299 2 (by first | decide | omega)).trans ks
    have k6 : ai_hv t103 301 i = some (.inl 4294967290) := (e103 301 i (by first | decide | omega)).trans kz
    refine ex_go (S := (147, l2, [], t103, n, 0)) rfl (fun _ => rfl) rfl ?_
    refine gx_incS (i := 6) (a := i) (x := 1) rfl (fun _ => rfl) l2_6 (by first | decide | omega) rfl (fun l7 hl7 ml7 => ?_)
    have l7_0 : en_ld l7 0 = some (gx_r 299) := ml7 0 _ l2_0 rfl
    have l7_1 : en_ld l7 1 = some (.inl mo) := ml7 1 _ l2_1 rfl
    have l7_2 : en_ld l7 2 = some (.inl me) := ml7 2 _ l2_2 rfl
    have l7_3 : en_ld l7 3 = some (.inl ti) := ml7 3 _ l2_3 rfl
    have l7_4 : en_ld l7 4 = some (.inl ou) := ml7 4 _ l2_4 rfl
    have l7_7 : en_ld l7 7 = some (.inl 4294967290) := ml7 7 _ l2_7 rfl
    have l7_5 : en_ld l7 5 = some (.inl (h - 1)) := ml7 5 _ hl2 rfl
    refine ex_go (S := (6, l7, [], t103, n, 0)) rfl (fun _ => rfl) rfl ?_
    exact hQ _ t103 g103 (fun c j h9 => e103 c j (by first | decide | omega)) k103 l7_0 l7_1 l7_2 l7_3 l7_4 l7_5 hl7
  · refine gx_ld (i := 6) (d := 0) (v := .inl i) rfl (fun _ => rfl) h6 rfl rfl ?_
    refine gx_ld (i := 0) (d := 2) (v := gx_r 299) rfl (fun _ => rfl) h0 rfl rfl ?_
    refine gxo_get (a := 299) rfl g0 rfl rfl ks rfl ?_
    refine gx_2f (c := .ge) rfl (by first | decide | omega) (by first | decide | omega) (show ¬ (s ≤ i) from by omega) rfl ?_
    refine gx_ld (i := 0) (d := 2) (v := gx_r 299) rfl (fun _ => rfl) h0 rfl rfl ?_
    refine gxo_ref (a := 299) (c := 301) rfl g0 rfl rfl rfl rfl rfl ?_
    refine gx_ld (i := 6) (d := 0) (v := .inl i) rfl (fun _ => rfl) h6 rfl rfl ?_
    refine gx_ag (v := .inl 4294967289) (cb := fun c => Nat.beq c 0) rfl (fun _ => rfl) g0 rfl rfl kz (by first | decide | omega) rfl ?_
    refine gx_sto (i := 7) (d := 0) rfl (fun _ => rfl) rfl rfl (fun l1 hl1 ml1 => ?_)
    have l1_0 : en_ld l1 0 = some (gx_r 299) := ml1 0 _ h0 rfl
    have l1_1 : en_ld l1 1 = some (.inl mo) := ml1 1 _ hm rfl
    have l1_2 : en_ld l1 2 = some (.inl me) := ml1 2 _ ha rfl
    have l1_3 : en_ld l1 3 = some (.inl ti) := ml1 3 _ hb rfl
    have l1_4 : en_ld l1 4 = some (.inl ou) := ml1 4 _ ho4 rfl
    have l1_5 : en_ld l1 5 = some (.inl h) := ml1 5 _ h5 rfl
    have l1_6 : en_ld l1 6 = some (.inl i) := ml1 6 _ h6 rfl
    refine gx_ld (i := 7) (d := 0) (v := .inl 4294967289) rfl (fun _ => rfl) hl1 rfl rfl ?_
    refine ex_go (S := (27, l1, [.inl 4294967295, .inl 4294967289], t0, n, 0)) rfl (fun _ => rfl) rfl ?_
    refine ex_go (S := (64, l1, [], t0, n, 0)) rfl (fun _ => rfl) rfl ?_
    refine gx_ld (i := 7) (d := 0) (v := .inl 4294967289) rfl (fun _ => rfl) hl1 rfl rfl ?_
    refine ex_go (S := (69, l1, [], t0, n, 0)) rfl (fun _ => rfl) rfl ?_
    refine gx_ld (i := 7) (d := 0) (v := .inl 4294967289) rfl (fun _ => rfl) hl1 rfl rfl ?_
    refine ex_go (S := (73, l1, [.inl 4294967288, .inl 4294967289], t0, n, 0)) rfl (fun _ => rfl) rfl ?_
    refine ex_go (S := (76, l1, [], t0, n, 0)) rfl (fun _ => rfl) rfl ?_
    refine gx_ld (i := 5) (d := 0) (v := .inl h) rfl (fun _ => rfl) l1_5 rfl rfl ?_
    refine ex_go (S := (79, l1, [.inl 1, .inl h], t0, n, 0)) rfl (fun _ => rfl) rfl ?_
    refine gx_2f (c := .le) rfl (by first | decide | omega) (by first | decide | omega) (show ¬ (h ≤ 1) from by omega) rfl ?_
    refine gx_decS (i := 5) (a := h) rfl (fun _ => rfl) l1_5 (by first | decide | omega) (by first | decide | omega) rfl (fun l2 hl2 ml2 => ?_)
    have l2_0 : en_ld l2 0 = some (gx_r 299) := ml2 0 _ l1_0 rfl
    have l2_1 : en_ld l2 1 = some (.inl mo) := ml2 1 _ l1_1 rfl
    have l2_2 : en_ld l2 2 = some (.inl me) := ml2 2 _ l1_2 rfl
    have l2_3 : en_ld l2 3 = some (.inl ti) := ml2 3 _ l1_3 rfl
    have l2_4 : en_ld l2 4 = some (.inl ou) := ml2 4 _ l1_4 rfl
    have l2_6 : en_ld l2 6 = some (.inl i) := ml2 6 _ l1_6 rfl
    have l2_7 : en_ld l2 7 = some (.inl 4294967289) := ml2 7 _ hl1 rfl
    refine gx_ld (i := 0) (d := 2) (v := gx_r 299) rfl (fun _ => rfl) l2_0 rfl rfl ?_
    refine gxo_ref (a := 299) (c := 300) rfl g0 rfl rfl rfl rfl rfl ?_
    refine gx_ld (i := 5) (d := 0) (v := .inl (h - 1)) rfl (fun _ => rfl) hl2 rfl rfl ?_
    refine ex_go (S := (92, l2, [.inl 1, .inl (h - 1), gx_r 300], t0, n, 0)) rfl (fun _ => rfl) rfl ?_
    refine gx_isub rfl (by first | decide | omega) (by first | decide | omega) rfl ?_
    refine gx_ld (i := 7) (d := 0) (v := .inl 4294967289) rfl (fun _ => rfl) l2_7 rfl rfl ?_
    refine gx_ld (i := 0) (d := 2) (v := gx_r 299) rfl (fun _ => rfl) l2_0 rfl rfl ?_
    refine gxo_ref (a := 299) (c := 300) rfl g0 rfl rfl rfl rfl rfl ?_
    refine gx_ld (i := 5) (d := 0) (v := .inl (h - 1)) rfl (fun _ => rfl) hl2 rfl rfl ?_
    refine ex_go (S := (102, l2, [.inl 1, .inl (h - 1), gx_r 300, .inl 4294967289, .inl ((h - 1) - 1), gx_r 300], t0, n, 0)) rfl (fun _ => rfl) rfl ?_
    refine gx_isub rfl (by first | decide | omega) (by first | decide | omega) rfl ?_
    refine gx_ag (v := .inl x) (cb := fun c => Nat.beq c 0) rfl (fun _ => rfl) g0 rfl rfl kx (by first | decide | omega) rfl ?_
    refine gx_ld (i := 0) (d := 2) (v := gx_r 299) rfl (fun _ => rfl) l2_0 rfl rfl ?_
    refine gxo_ref (a := 299) (c := 300) rfl g0 rfl rfl rfl rfl rfl ?_
    refine gx_ld (i := 5) (d := 0) (v := .inl (h - 1)) rfl (fun _ => rfl) hl2 rfl rfl ?_
    refine gx_ag (v := .inl y) (cb := fun c => Nat.beq c 0) rfl (fun _ => rfl) g0 rfl rfl ky (by first | decide | omega) rfl ?_
    have hvb := vb_lt (o := opm 4294967289) (a := x) (b := y)
    refine ex_stat rfl rfl rfl rfl rfl (pc_joined d n (t0 := t0) (z := 4294967289) (x := x) (y := y) (by first | decide | omega) (by first | decide | omega) (by first | decide | omega)) (Nat.le_refl _) rfl ?_
    show en_ex _ _ _ _ (114, l2, [.inl (vb (opm 4294967289) x y), .inl ((h - 1) - 1), gx_r 300], t0, n, 0) _
    refine gx_ap rfl (fun _ => rfl) g0 rfl rfl rfl (show (h - 1) - 1 < 25 from by omega) (gx_run1 (show (h - 1) - 1 < 25 from by omega)) (gx_full (by first | decide | omega)) rfl (fun t103 g103 k103 e103 => ?_)
    have k4 : ai_hv t103 300 (h - 1) = some (.inl y) := (e103 300 (h - 1) (by first | decide | omega)).trans ky
    have k5 : ai_hv t103 299 2 = some (.inl s) := (e103 299 2 (by first | decide | omega)).trans ks
    have k6 : ai_hv t103 301 i = some (.inl 4294967289) := (e103 301 i (by first | decide | omega)).trans kz
    refine ex_go (S := (147, l2, [], t103, n, 0)) rfl (fun _ => rfl) rfl ?_
    refine gx_incS (i := 6) (a := i) (x := 1) rfl (fun _ => rfl) l2_6 (by first | decide | omega) rfl (fun l7 hl7 ml7 => ?_)
    have l7_0 : en_ld l7 0 = some (gx_r 299) := ml7 0 _ l2_0 rfl
    have l7_1 : en_ld l7 1 = some (.inl mo) := ml7 1 _ l2_1 rfl
    have l7_2 : en_ld l7 2 = some (.inl me) := ml7 2 _ l2_2 rfl
    have l7_3 : en_ld l7 3 = some (.inl ti) := ml7 3 _ l2_3 rfl
    have l7_4 : en_ld l7 4 = some (.inl ou) := ml7 4 _ l2_4 rfl
    have l7_7 : en_ld l7 7 = some (.inl 4294967289) := ml7 7 _ l2_7 rfl
    have l7_5 : en_ld l7 5 = some (.inl (h - 1)) := ml7 5 _ hl2 rfl
    refine ex_go (S := (6, l7, [], t103, n, 0)) rfl (fun _ => rfl) rfl ?_
    exact hQ _ t103 g103 (fun c j h9 => e103 c j (by first | decide | omega)) k103 l7_0 l7_1 l7_2 l7_3 l7_4 l7_5 hl7
  · refine gx_ld (i := 6) (d := 0) (v := .inl i) rfl (fun _ => rfl) h6 rfl rfl ?_
    refine gx_ld (i := 0) (d := 2) (v := gx_r 299) rfl (fun _ => rfl) h0 rfl rfl ?_
    refine gxo_get (a := 299) rfl g0 rfl rfl ks rfl ?_
    refine gx_2f (c := .ge) rfl (by first | decide | omega) (by first | decide | omega) (show ¬ (s ≤ i) from by omega) rfl ?_
    refine gx_ld (i := 0) (d := 2) (v := gx_r 299) rfl (fun _ => rfl) h0 rfl rfl ?_
    refine gxo_ref (a := 299) (c := 301) rfl g0 rfl rfl rfl rfl rfl ?_
    refine gx_ld (i := 6) (d := 0) (v := .inl i) rfl (fun _ => rfl) h6 rfl rfl ?_
    refine gx_ag (v := .inl 4294967288) (cb := fun c => Nat.beq c 0) rfl (fun _ => rfl) g0 rfl rfl kz (by first | decide | omega) rfl ?_
    refine gx_sto (i := 7) (d := 0) rfl (fun _ => rfl) rfl rfl (fun l1 hl1 ml1 => ?_)
    have l1_0 : en_ld l1 0 = some (gx_r 299) := ml1 0 _ h0 rfl
    have l1_1 : en_ld l1 1 = some (.inl mo) := ml1 1 _ hm rfl
    have l1_2 : en_ld l1 2 = some (.inl me) := ml1 2 _ ha rfl
    have l1_3 : en_ld l1 3 = some (.inl ti) := ml1 3 _ hb rfl
    have l1_4 : en_ld l1 4 = some (.inl ou) := ml1 4 _ ho4 rfl
    have l1_5 : en_ld l1 5 = some (.inl h) := ml1 5 _ h5 rfl
    have l1_6 : en_ld l1 6 = some (.inl i) := ml1 6 _ h6 rfl
    refine gx_ld (i := 7) (d := 0) (v := .inl 4294967288) rfl (fun _ => rfl) hl1 rfl rfl ?_
    refine ex_go (S := (27, l1, [.inl 4294967295, .inl 4294967288], t0, n, 0)) rfl (fun _ => rfl) rfl ?_
    refine ex_go (S := (64, l1, [], t0, n, 0)) rfl (fun _ => rfl) rfl ?_
    refine gx_ld (i := 7) (d := 0) (v := .inl 4294967288) rfl (fun _ => rfl) hl1 rfl rfl ?_
    refine ex_go (S := (69, l1, [], t0, n, 0)) rfl (fun _ => rfl) rfl ?_
    refine gx_ld (i := 7) (d := 0) (v := .inl 4294967288) rfl (fun _ => rfl) hl1 rfl rfl ?_
    refine ex_go (S := (73, l1, [.inl 4294967288, .inl 4294967288], t0, n, 0)) rfl (fun _ => rfl) rfl ?_
    refine ex_go (S := (76, l1, [], t0, n, 0)) rfl (fun _ => rfl) rfl ?_
    refine gx_ld (i := 5) (d := 0) (v := .inl h) rfl (fun _ => rfl) l1_5 rfl rfl ?_
    refine ex_go (S := (79, l1, [.inl 1, .inl h], t0, n, 0)) rfl (fun _ => rfl) rfl ?_
    refine gx_2f (c := .le) rfl (by first | decide | omega) (by first | decide | omega) (show ¬ (h ≤ 1) from by omega) rfl ?_
    refine gx_decS (i := 5) (a := h) rfl (fun _ => rfl) l1_5 (by first | decide | omega) (by first | decide | omega) rfl (fun l2 hl2 ml2 => ?_)
    have l2_0 : en_ld l2 0 = some (gx_r 299) := ml2 0 _ l1_0 rfl
    have l2_1 : en_ld l2 1 = some (.inl mo) := ml2 1 _ l1_1 rfl
    have l2_2 : en_ld l2 2 = some (.inl me) := ml2 2 _ l1_2 rfl
    have l2_3 : en_ld l2 3 = some (.inl ti) := ml2 3 _ l1_3 rfl
    have l2_4 : en_ld l2 4 = some (.inl ou) := ml2 4 _ l1_4 rfl
    have l2_6 : en_ld l2 6 = some (.inl i) := ml2 6 _ l1_6 rfl
    have l2_7 : en_ld l2 7 = some (.inl 4294967288) := ml2 7 _ hl1 rfl
    refine gx_ld (i := 0) (d := 2) (v := gx_r 299) rfl (fun _ => rfl) l2_0 rfl rfl ?_
    refine gxo_ref (a := 299) (c := 300) rfl g0 rfl rfl rfl rfl rfl ?_
    refine gx_ld (i := 5) (d := 0) (v := .inl (h - 1)) rfl (fun _ => rfl) hl2 rfl rfl ?_
    refine ex_go (S := (92, l2, [.inl 1, .inl (h - 1), gx_r 300], t0, n, 0)) rfl (fun _ => rfl) rfl ?_
    refine gx_isub rfl (by first | decide | omega) (by first | decide | omega) rfl ?_
    refine gx_ld (i := 7) (d := 0) (v := .inl 4294967288) rfl (fun _ => rfl) l2_7 rfl rfl ?_
    refine gx_ld (i := 0) (d := 2) (v := gx_r 299) rfl (fun _ => rfl) l2_0 rfl rfl ?_
    refine gxo_ref (a := 299) (c := 300) rfl g0 rfl rfl rfl rfl rfl ?_
    refine gx_ld (i := 5) (d := 0) (v := .inl (h - 1)) rfl (fun _ => rfl) hl2 rfl rfl ?_
    refine ex_go (S := (102, l2, [.inl 1, .inl (h - 1), gx_r 300, .inl 4294967288, .inl ((h - 1) - 1), gx_r 300], t0, n, 0)) rfl (fun _ => rfl) rfl ?_
    refine gx_isub rfl (by first | decide | omega) (by first | decide | omega) rfl ?_
    refine gx_ag (v := .inl x) (cb := fun c => Nat.beq c 0) rfl (fun _ => rfl) g0 rfl rfl kx (by first | decide | omega) rfl ?_
    refine gx_ld (i := 0) (d := 2) (v := gx_r 299) rfl (fun _ => rfl) l2_0 rfl rfl ?_
    refine gxo_ref (a := 299) (c := 300) rfl g0 rfl rfl rfl rfl rfl ?_
    refine gx_ld (i := 5) (d := 0) (v := .inl (h - 1)) rfl (fun _ => rfl) hl2 rfl rfl ?_
    refine gx_ag (v := .inl y) (cb := fun c => Nat.beq c 0) rfl (fun _ => rfl) g0 rfl rfl ky (by first | decide | omega) rfl ?_
    have hvb := vb_lt (o := opm 4294967288) (a := x) (b := y)
    refine ex_stat rfl rfl rfl rfl rfl (pc_joined d n (t0 := t0) (z := 4294967288) (x := x) (y := y) (by first | decide | omega) (by first | decide | omega) (by first | decide | omega)) (Nat.le_refl _) rfl ?_
    show en_ex _ _ _ _ (114, l2, [.inl (vb (opm 4294967288) x y), .inl ((h - 1) - 1), gx_r 300], t0, n, 0) _
    refine gx_ap rfl (fun _ => rfl) g0 rfl rfl rfl (show (h - 1) - 1 < 25 from by omega) (gx_run1 (show (h - 1) - 1 < 25 from by omega)) (gx_full (by first | decide | omega)) rfl (fun t103 g103 k103 e103 => ?_)
    have k4 : ai_hv t103 300 (h - 1) = some (.inl y) := (e103 300 (h - 1) (by first | decide | omega)).trans ky
    have k5 : ai_hv t103 299 2 = some (.inl s) := (e103 299 2 (by first | decide | omega)).trans ks
    have k6 : ai_hv t103 301 i = some (.inl 4294967288) := (e103 301 i (by first | decide | omega)).trans kz
    refine ex_go (S := (147, l2, [], t103, n, 0)) rfl (fun _ => rfl) rfl ?_
    refine gx_incS (i := 6) (a := i) (x := 1) rfl (fun _ => rfl) l2_6 (by first | decide | omega) rfl (fun l7 hl7 ml7 => ?_)
    have l7_0 : en_ld l7 0 = some (gx_r 299) := ml7 0 _ l2_0 rfl
    have l7_1 : en_ld l7 1 = some (.inl mo) := ml7 1 _ l2_1 rfl
    have l7_2 : en_ld l7 2 = some (.inl me) := ml7 2 _ l2_2 rfl
    have l7_3 : en_ld l7 3 = some (.inl ti) := ml7 3 _ l2_3 rfl
    have l7_4 : en_ld l7 4 = some (.inl ou) := ml7 4 _ l2_4 rfl
    have l7_7 : en_ld l7 7 = some (.inl 4294967288) := ml7 7 _ l2_7 rfl
    have l7_5 : en_ld l7 5 = some (.inl (h - 1)) := ml7 5 _ hl2 rfl
    refine ex_go (S := (6, l7, [], t103, n, 0)) rfl (fun _ => rfl) rfl ?_
    exact hQ _ t103 g103 (fun c j h9 => e103 c j (by first | decide | omega)) k103 l7_0 l7_1 l7_2 l7_3 l7_4 l7_5 hl7
  · refine gx_ld (i := 6) (d := 0) (v := .inl i) rfl (fun _ => rfl) h6 rfl rfl ?_
    refine gx_ld (i := 0) (d := 2) (v := gx_r 299) rfl (fun _ => rfl) h0 rfl rfl ?_
    refine gxo_get (a := 299) rfl g0 rfl rfl ks rfl ?_
    refine gx_2f (c := .ge) rfl (by first | decide | omega) (by first | decide | omega) (show ¬ (s ≤ i) from by omega) rfl ?_
    refine gx_ld (i := 0) (d := 2) (v := gx_r 299) rfl (fun _ => rfl) h0 rfl rfl ?_
    refine gxo_ref (a := 299) (c := 301) rfl g0 rfl rfl rfl rfl rfl ?_
    refine gx_ld (i := 6) (d := 0) (v := .inl i) rfl (fun _ => rfl) h6 rfl rfl ?_
    refine gx_ag (v := .inl 4294967292) (cb := fun c => Nat.beq c 0) rfl (fun _ => rfl) g0 rfl rfl kz (by first | decide | omega) rfl ?_
    refine gx_sto (i := 7) (d := 0) rfl (fun _ => rfl) rfl rfl (fun l1 hl1 ml1 => ?_)
    have l1_0 : en_ld l1 0 = some (gx_r 299) := ml1 0 _ h0 rfl
    have l1_1 : en_ld l1 1 = some (.inl mo) := ml1 1 _ hm rfl
    have l1_2 : en_ld l1 2 = some (.inl me) := ml1 2 _ ha rfl
    have l1_3 : en_ld l1 3 = some (.inl ti) := ml1 3 _ hb rfl
    have l1_4 : en_ld l1 4 = some (.inl ou) := ml1 4 _ ho4 rfl
    have l1_5 : en_ld l1 5 = some (.inl h) := ml1 5 _ h5 rfl
    have l1_6 : en_ld l1 6 = some (.inl i) := ml1 6 _ h6 rfl
    refine gx_ld (i := 7) (d := 0) (v := .inl 4294967292) rfl (fun _ => rfl) hl1 rfl rfl ?_
    refine ex_go (S := (27, l1, [.inl 4294967295, .inl 4294967292], t0, n, 0)) rfl (fun _ => rfl) rfl ?_
    refine ex_go (S := (64, l1, [], t0, n, 0)) rfl (fun _ => rfl) rfl ?_
    refine gx_ld (i := 7) (d := 0) (v := .inl 4294967292) rfl (fun _ => rfl) hl1 rfl rfl ?_
    refine ex_go (S := (69, l1, [], t0, n, 0)) rfl (fun _ => rfl) rfl ?_
    refine gx_ld (i := 7) (d := 0) (v := .inl 4294967292) rfl (fun _ => rfl) hl1 rfl rfl ?_
    refine ex_go (S := (73, l1, [.inl 4294967288, .inl 4294967292], t0, n, 0)) rfl (fun _ => rfl) rfl ?_
    refine ex_go (S := (76, l1, [], t0, n, 0)) rfl (fun _ => rfl) rfl ?_
    refine gx_ld (i := 5) (d := 0) (v := .inl h) rfl (fun _ => rfl) l1_5 rfl rfl ?_
    refine ex_go (S := (79, l1, [.inl 1, .inl h], t0, n, 0)) rfl (fun _ => rfl) rfl ?_
    refine gx_2f (c := .le) rfl (by first | decide | omega) (by first | decide | omega) (show ¬ (h ≤ 1) from by omega) rfl ?_
    refine gx_decS (i := 5) (a := h) rfl (fun _ => rfl) l1_5 (by first | decide | omega) (by first | decide | omega) rfl (fun l2 hl2 ml2 => ?_)
    have l2_0 : en_ld l2 0 = some (gx_r 299) := ml2 0 _ l1_0 rfl
    have l2_1 : en_ld l2 1 = some (.inl mo) := ml2 1 _ l1_1 rfl
    have l2_2 : en_ld l2 2 = some (.inl me) := ml2 2 _ l1_2 rfl
    have l2_3 : en_ld l2 3 = some (.inl ti) := ml2 3 _ l1_3 rfl
    have l2_4 : en_ld l2 4 = some (.inl ou) := ml2 4 _ l1_4 rfl
    have l2_6 : en_ld l2 6 = some (.inl i) := ml2 6 _ l1_6 rfl
    have l2_7 : en_ld l2 7 = some (.inl 4294967292) := ml2 7 _ hl1 rfl
    refine gx_ld (i := 0) (d := 2) (v := gx_r 299) rfl (fun _ => rfl) l2_0 rfl rfl ?_
    refine gxo_ref (a := 299) (c := 300) rfl g0 rfl rfl rfl rfl rfl ?_
    refine gx_ld (i := 5) (d := 0) (v := .inl (h - 1)) rfl (fun _ => rfl) hl2 rfl rfl ?_
    refine ex_go (S := (92, l2, [.inl 1, .inl (h - 1), gx_r 300], t0, n, 0)) rfl (fun _ => rfl) rfl ?_
    refine gx_isub rfl (by first | decide | omega) (by first | decide | omega) rfl ?_
    refine gx_ld (i := 7) (d := 0) (v := .inl 4294967292) rfl (fun _ => rfl) l2_7 rfl rfl ?_
    refine gx_ld (i := 0) (d := 2) (v := gx_r 299) rfl (fun _ => rfl) l2_0 rfl rfl ?_
    refine gxo_ref (a := 299) (c := 300) rfl g0 rfl rfl rfl rfl rfl ?_
    refine gx_ld (i := 5) (d := 0) (v := .inl (h - 1)) rfl (fun _ => rfl) hl2 rfl rfl ?_
    refine ex_go (S := (102, l2, [.inl 1, .inl (h - 1), gx_r 300, .inl 4294967292, .inl ((h - 1) - 1), gx_r 300], t0, n, 0)) rfl (fun _ => rfl) rfl ?_
    refine gx_isub rfl (by first | decide | omega) (by first | decide | omega) rfl ?_
    refine gx_ag (v := .inl x) (cb := fun c => Nat.beq c 0) rfl (fun _ => rfl) g0 rfl rfl kx (by first | decide | omega) rfl ?_
    refine gx_ld (i := 0) (d := 2) (v := gx_r 299) rfl (fun _ => rfl) l2_0 rfl rfl ?_
    refine gxo_ref (a := 299) (c := 300) rfl g0 rfl rfl rfl rfl rfl ?_
    refine gx_ld (i := 5) (d := 0) (v := .inl (h - 1)) rfl (fun _ => rfl) hl2 rfl rfl ?_
    refine gx_ag (v := .inl y) (cb := fun c => Nat.beq c 0) rfl (fun _ => rfl) g0 rfl rfl ky (by first | decide | omega) rfl ?_
    have hvb := vb_lt (o := opm 4294967292) (a := x) (b := y)
    refine ex_stat rfl rfl rfl rfl rfl (pc_joined d n (t0 := t0) (z := 4294967292) (x := x) (y := y) (by first | decide | omega) (by first | decide | omega) (by first | decide | omega)) (Nat.le_refl _) rfl ?_
    show en_ex _ _ _ _ (114, l2, [.inl (vb (opm 4294967292) x y), .inl ((h - 1) - 1), gx_r 300], t0, n, 0) _
    refine gx_ap rfl (fun _ => rfl) g0 rfl rfl rfl (show (h - 1) - 1 < 25 from by omega) (gx_run1 (show (h - 1) - 1 < 25 from by omega)) (gx_full (by first | decide | omega)) rfl (fun t103 g103 k103 e103 => ?_)
    have k4 : ai_hv t103 300 (h - 1) = some (.inl y) := (e103 300 (h - 1) (by first | decide | omega)).trans ky
    have k5 : ai_hv t103 299 2 = some (.inl s) := (e103 299 2 (by first | decide | omega)).trans ks
    have k6 : ai_hv t103 301 i = some (.inl 4294967292) := (e103 301 i (by first | decide | omega)).trans kz
    refine ex_go (S := (147, l2, [], t103, n, 0)) rfl (fun _ => rfl) rfl ?_
    refine gx_incS (i := 6) (a := i) (x := 1) rfl (fun _ => rfl) l2_6 (by first | decide | omega) rfl (fun l7 hl7 ml7 => ?_)
    have l7_0 : en_ld l7 0 = some (gx_r 299) := ml7 0 _ l2_0 rfl
    have l7_1 : en_ld l7 1 = some (.inl mo) := ml7 1 _ l2_1 rfl
    have l7_2 : en_ld l7 2 = some (.inl me) := ml7 2 _ l2_2 rfl
    have l7_3 : en_ld l7 3 = some (.inl ti) := ml7 3 _ l2_3 rfl
    have l7_4 : en_ld l7 4 = some (.inl ou) := ml7 4 _ l2_4 rfl
    have l7_7 : en_ld l7 7 = some (.inl 4294967292) := ml7 7 _ l2_7 rfl
    have l7_5 : en_ld l7 5 = some (.inl (h - 1)) := ml7 5 _ hl2 rfl
    refine ex_go (S := (6, l7, [], t103, n, 0)) rfl (fun _ => rfl) rfl ?_
    exact hQ _ t103 g103 (fun c j h9 => e103 c j (by first | decide | omega)) k103 l7_0 l7_1 l7_2 l7_3 l7_4 l7_5 hl7
  · refine gx_ld (i := 6) (d := 0) (v := .inl i) rfl (fun _ => rfl) h6 rfl rfl ?_
    refine gx_ld (i := 0) (d := 2) (v := gx_r 299) rfl (fun _ => rfl) h0 rfl rfl ?_
    refine gxo_get (a := 299) rfl g0 rfl rfl ks rfl ?_
    refine gx_2f (c := .ge) rfl (by first | decide | omega) (by first | decide | omega) (show ¬ (s ≤ i) from by omega) rfl ?_
    refine gx_ld (i := 0) (d := 2) (v := gx_r 299) rfl (fun _ => rfl) h0 rfl rfl ?_
    refine gxo_ref (a := 299) (c := 301) rfl g0 rfl rfl rfl rfl rfl ?_
    refine gx_ld (i := 6) (d := 0) (v := .inl i) rfl (fun _ => rfl) h6 rfl rfl ?_
    refine gx_ag (v := .inl 4294967291) (cb := fun c => Nat.beq c 0) rfl (fun _ => rfl) g0 rfl rfl kz (by first | decide | omega) rfl ?_
    refine gx_sto (i := 7) (d := 0) rfl (fun _ => rfl) rfl rfl (fun l1 hl1 ml1 => ?_)
    have l1_0 : en_ld l1 0 = some (gx_r 299) := ml1 0 _ h0 rfl
    have l1_1 : en_ld l1 1 = some (.inl mo) := ml1 1 _ hm rfl
    have l1_2 : en_ld l1 2 = some (.inl me) := ml1 2 _ ha rfl
    have l1_3 : en_ld l1 3 = some (.inl ti) := ml1 3 _ hb rfl
    have l1_4 : en_ld l1 4 = some (.inl ou) := ml1 4 _ ho4 rfl
    have l1_5 : en_ld l1 5 = some (.inl h) := ml1 5 _ h5 rfl
    have l1_6 : en_ld l1 6 = some (.inl i) := ml1 6 _ h6 rfl
    refine gx_ld (i := 7) (d := 0) (v := .inl 4294967291) rfl (fun _ => rfl) hl1 rfl rfl ?_
    refine ex_go (S := (27, l1, [.inl 4294967295, .inl 4294967291], t0, n, 0)) rfl (fun _ => rfl) rfl ?_
    refine ex_go (S := (64, l1, [], t0, n, 0)) rfl (fun _ => rfl) rfl ?_
    refine gx_ld (i := 7) (d := 0) (v := .inl 4294967291) rfl (fun _ => rfl) hl1 rfl rfl ?_
    refine ex_go (S := (69, l1, [], t0, n, 0)) rfl (fun _ => rfl) rfl ?_
    refine gx_ld (i := 7) (d := 0) (v := .inl 4294967291) rfl (fun _ => rfl) hl1 rfl rfl ?_
    refine ex_go (S := (73, l1, [.inl 4294967288, .inl 4294967291], t0, n, 0)) rfl (fun _ => rfl) rfl ?_
    refine ex_go (S := (76, l1, [], t0, n, 0)) rfl (fun _ => rfl) rfl ?_
    refine gx_ld (i := 5) (d := 0) (v := .inl h) rfl (fun _ => rfl) l1_5 rfl rfl ?_
    refine ex_go (S := (79, l1, [.inl 1, .inl h], t0, n, 0)) rfl (fun _ => rfl) rfl ?_
    refine gx_2f (c := .le) rfl (by first | decide | omega) (by first | decide | omega) (show ¬ (h ≤ 1) from by omega) rfl ?_
    refine gx_decS (i := 5) (a := h) rfl (fun _ => rfl) l1_5 (by first | decide | omega) (by first | decide | omega) rfl (fun l2 hl2 ml2 => ?_)
    have l2_0 : en_ld l2 0 = some (gx_r 299) := ml2 0 _ l1_0 rfl
    have l2_1 : en_ld l2 1 = some (.inl mo) := ml2 1 _ l1_1 rfl
    have l2_2 : en_ld l2 2 = some (.inl me) := ml2 2 _ l1_2 rfl
    have l2_3 : en_ld l2 3 = some (.inl ti) := ml2 3 _ l1_3 rfl
    have l2_4 : en_ld l2 4 = some (.inl ou) := ml2 4 _ l1_4 rfl
    have l2_6 : en_ld l2 6 = some (.inl i) := ml2 6 _ l1_6 rfl
    have l2_7 : en_ld l2 7 = some (.inl 4294967291) := ml2 7 _ hl1 rfl
    refine gx_ld (i := 0) (d := 2) (v := gx_r 299) rfl (fun _ => rfl) l2_0 rfl rfl ?_
    refine gxo_ref (a := 299) (c := 300) rfl g0 rfl rfl rfl rfl rfl ?_
    refine gx_ld (i := 5) (d := 0) (v := .inl (h - 1)) rfl (fun _ => rfl) hl2 rfl rfl ?_
    refine ex_go (S := (92, l2, [.inl 1, .inl (h - 1), gx_r 300], t0, n, 0)) rfl (fun _ => rfl) rfl ?_
    refine gx_isub rfl (by first | decide | omega) (by first | decide | omega) rfl ?_
    refine gx_ld (i := 7) (d := 0) (v := .inl 4294967291) rfl (fun _ => rfl) l2_7 rfl rfl ?_
    refine gx_ld (i := 0) (d := 2) (v := gx_r 299) rfl (fun _ => rfl) l2_0 rfl rfl ?_
    refine gxo_ref (a := 299) (c := 300) rfl g0 rfl rfl rfl rfl rfl ?_
    refine gx_ld (i := 5) (d := 0) (v := .inl (h - 1)) rfl (fun _ => rfl) hl2 rfl rfl ?_
    refine ex_go (S := (102, l2, [.inl 1, .inl (h - 1), gx_r 300, .inl 4294967291, .inl ((h - 1) - 1), gx_r 300], t0, n, 0)) rfl (fun _ => rfl) rfl ?_
    refine gx_isub rfl (by first | decide | omega) (by first | decide | omega) rfl ?_
    refine gx_ag (v := .inl x) (cb := fun c => Nat.beq c 0) rfl (fun _ => rfl) g0 rfl rfl kx (by first | decide | omega) rfl ?_
    refine gx_ld (i := 0) (d := 2) (v := gx_r 299) rfl (fun _ => rfl) l2_0 rfl rfl ?_
    refine gxo_ref (a := 299) (c := 300) rfl g0 rfl rfl rfl rfl rfl ?_
    refine gx_ld (i := 5) (d := 0) (v := .inl (h - 1)) rfl (fun _ => rfl) hl2 rfl rfl ?_
    refine gx_ag (v := .inl y) (cb := fun c => Nat.beq c 0) rfl (fun _ => rfl) g0 rfl rfl ky (by first | decide | omega) rfl ?_
    have hvb := vb_lt (o := opm 4294967291) (a := x) (b := y)
    refine ex_stat rfl rfl rfl rfl rfl (pc_joined d n (t0 := t0) (z := 4294967291) (x := x) (y := y) (by first | decide | omega) (by first | decide | omega) (by first | decide | omega)) (Nat.le_refl _) rfl ?_
    show en_ex _ _ _ _ (114, l2, [.inl (vb (opm 4294967291) x y), .inl ((h - 1) - 1), gx_r 300], t0, n, 0) _
    refine gx_ap rfl (fun _ => rfl) g0 rfl rfl rfl (show (h - 1) - 1 < 25 from by omega) (gx_run1 (show (h - 1) - 1 < 25 from by omega)) (gx_full (by first | decide | omega)) rfl (fun t103 g103 k103 e103 => ?_)
    have k4 : ai_hv t103 300 (h - 1) = some (.inl y) := (e103 300 (h - 1) (by first | decide | omega)).trans ky
    have k5 : ai_hv t103 299 2 = some (.inl s) := (e103 299 2 (by first | decide | omega)).trans ks
    have k6 : ai_hv t103 301 i = some (.inl 4294967291) := (e103 301 i (by first | decide | omega)).trans kz
    refine ex_go (S := (147, l2, [], t103, n, 0)) rfl (fun _ => rfl) rfl ?_
    refine gx_incS (i := 6) (a := i) (x := 1) rfl (fun _ => rfl) l2_6 (by first | decide | omega) rfl (fun l7 hl7 ml7 => ?_)
    have l7_0 : en_ld l7 0 = some (gx_r 299) := ml7 0 _ l2_0 rfl
    have l7_1 : en_ld l7 1 = some (.inl mo) := ml7 1 _ l2_1 rfl
    have l7_2 : en_ld l7 2 = some (.inl me) := ml7 2 _ l2_2 rfl
    have l7_3 : en_ld l7 3 = some (.inl ti) := ml7 3 _ l2_3 rfl
    have l7_4 : en_ld l7 4 = some (.inl ou) := ml7 4 _ l2_4 rfl
    have l7_7 : en_ld l7 7 = some (.inl 4294967291) := ml7 7 _ l2_7 rfl
    have l7_5 : en_ld l7 5 = some (.inl (h - 1)) := ml7 5 _ hl2 rfl
    refine ex_go (S := (6, l7, [], t103, n, 0)) rfl (fun _ => rfl) rfl ?_
    exact hQ _ t103 g103 (fun c j h9 => e103 c j (by first | decide | omega)) k103 l7_0 l7_1 l7_2 l7_3 l7_4 l7_5 hl7
  · refine gx_ld (i := 6) (d := 0) (v := .inl i) rfl (fun _ => rfl) h6 rfl rfl ?_
    refine gx_ld (i := 0) (d := 2) (v := gx_r 299) rfl (fun _ => rfl) h0 rfl rfl ?_
    refine gxo_get (a := 299) rfl g0 rfl rfl ks rfl ?_
    refine gx_2f (c := .ge) rfl (by first | decide | omega) (by first | decide | omega) (show ¬ (s ≤ i) from by omega) rfl ?_
    refine gx_ld (i := 0) (d := 2) (v := gx_r 299) rfl (fun _ => rfl) h0 rfl rfl ?_
    refine gxo_ref (a := 299) (c := 301) rfl g0 rfl rfl rfl rfl rfl ?_
    refine gx_ld (i := 6) (d := 0) (v := .inl i) rfl (fun _ => rfl) h6 rfl rfl ?_
    refine gx_ag (v := .inl 4294967294) (cb := fun c => Nat.beq c 0) rfl (fun _ => rfl) g0 rfl rfl kz (by first | decide | omega) rfl ?_
    refine gx_sto (i := 7) (d := 0) rfl (fun _ => rfl) rfl rfl (fun l1 hl1 ml1 => ?_)
    have l1_0 : en_ld l1 0 = some (gx_r 299) := ml1 0 _ h0 rfl
    have l1_1 : en_ld l1 1 = some (.inl mo) := ml1 1 _ hm rfl
    have l1_2 : en_ld l1 2 = some (.inl me) := ml1 2 _ ha rfl
    have l1_3 : en_ld l1 3 = some (.inl ti) := ml1 3 _ hb rfl
    have l1_4 : en_ld l1 4 = some (.inl ou) := ml1 4 _ ho4 rfl
    have l1_5 : en_ld l1 5 = some (.inl h) := ml1 5 _ h5 rfl
    have l1_6 : en_ld l1 6 = some (.inl i) := ml1 6 _ h6 rfl
    refine gx_ld (i := 7) (d := 0) (v := .inl 4294967294) rfl (fun _ => rfl) hl1 rfl rfl ?_
    refine ex_go (S := (27, l1, [.inl 4294967295, .inl 4294967294], t0, n, 0)) rfl (fun _ => rfl) rfl ?_
    refine ex_go (S := (64, l1, [], t0, n, 0)) rfl (fun _ => rfl) rfl ?_
    refine gx_ld (i := 7) (d := 0) (v := .inl 4294967294) rfl (fun _ => rfl) hl1 rfl rfl ?_
    refine ex_go (S := (69, l1, [], t0, n, 0)) rfl (fun _ => rfl) rfl ?_
    refine gx_ld (i := 7) (d := 0) (v := .inl 4294967294) rfl (fun _ => rfl) hl1 rfl rfl ?_
    refine ex_go (S := (73, l1, [.inl 4294967288, .inl 4294967294], t0, n, 0)) rfl (fun _ => rfl) rfl ?_
    refine ex_go (S := (76, l1, [], t0, n, 0)) rfl (fun _ => rfl) rfl ?_
    refine gx_ld (i := 5) (d := 0) (v := .inl h) rfl (fun _ => rfl) l1_5 rfl rfl ?_
    refine ex_go (S := (79, l1, [.inl 1, .inl h], t0, n, 0)) rfl (fun _ => rfl) rfl ?_
    refine gx_2f (c := .le) rfl (by first | decide | omega) (by first | decide | omega) (show ¬ (h ≤ 1) from by omega) rfl ?_
    refine gx_decS (i := 5) (a := h) rfl (fun _ => rfl) l1_5 (by first | decide | omega) (by first | decide | omega) rfl (fun l2 hl2 ml2 => ?_)
    have l2_0 : en_ld l2 0 = some (gx_r 299) := ml2 0 _ l1_0 rfl
    have l2_1 : en_ld l2 1 = some (.inl mo) := ml2 1 _ l1_1 rfl
    have l2_2 : en_ld l2 2 = some (.inl me) := ml2 2 _ l1_2 rfl
    have l2_3 : en_ld l2 3 = some (.inl ti) := ml2 3 _ l1_3 rfl
    have l2_4 : en_ld l2 4 = some (.inl ou) := ml2 4 _ l1_4 rfl
    have l2_6 : en_ld l2 6 = some (.inl i) := ml2 6 _ l1_6 rfl
    have l2_7 : en_ld l2 7 = some (.inl 4294967294) := ml2 7 _ hl1 rfl
    refine gx_ld (i := 0) (d := 2) (v := gx_r 299) rfl (fun _ => rfl) l2_0 rfl rfl ?_
    refine gxo_ref (a := 299) (c := 300) rfl g0 rfl rfl rfl rfl rfl ?_
    refine gx_ld (i := 5) (d := 0) (v := .inl (h - 1)) rfl (fun _ => rfl) hl2 rfl rfl ?_
    refine ex_go (S := (92, l2, [.inl 1, .inl (h - 1), gx_r 300], t0, n, 0)) rfl (fun _ => rfl) rfl ?_
    refine gx_isub rfl (by first | decide | omega) (by first | decide | omega) rfl ?_
    refine gx_ld (i := 7) (d := 0) (v := .inl 4294967294) rfl (fun _ => rfl) l2_7 rfl rfl ?_
    refine gx_ld (i := 0) (d := 2) (v := gx_r 299) rfl (fun _ => rfl) l2_0 rfl rfl ?_
    refine gxo_ref (a := 299) (c := 300) rfl g0 rfl rfl rfl rfl rfl ?_
    refine gx_ld (i := 5) (d := 0) (v := .inl (h - 1)) rfl (fun _ => rfl) hl2 rfl rfl ?_
    refine ex_go (S := (102, l2, [.inl 1, .inl (h - 1), gx_r 300, .inl 4294967294, .inl ((h - 1) - 1), gx_r 300], t0, n, 0)) rfl (fun _ => rfl) rfl ?_
    refine gx_isub rfl (by first | decide | omega) (by first | decide | omega) rfl ?_
    refine gx_ag (v := .inl x) (cb := fun c => Nat.beq c 0) rfl (fun _ => rfl) g0 rfl rfl kx (by first | decide | omega) rfl ?_
    refine gx_ld (i := 0) (d := 2) (v := gx_r 299) rfl (fun _ => rfl) l2_0 rfl rfl ?_
    refine gxo_ref (a := 299) (c := 300) rfl g0 rfl rfl rfl rfl rfl ?_
    refine gx_ld (i := 5) (d := 0) (v := .inl (h - 1)) rfl (fun _ => rfl) hl2 rfl rfl ?_
    refine gx_ag (v := .inl y) (cb := fun c => Nat.beq c 0) rfl (fun _ => rfl) g0 rfl rfl ky (by first | decide | omega) rfl ?_
    have hvb := vb_lt (o := opm 4294967294) (a := x) (b := y)
    refine ex_stat rfl rfl rfl rfl rfl (pc_joined d n (t0 := t0) (z := 4294967294) (x := x) (y := y) (by first | decide | omega) (by first | decide | omega) (by first | decide | omega)) (Nat.le_refl _) rfl ?_
    show en_ex _ _ _ _ (114, l2, [.inl (vb (opm 4294967294) x y), .inl ((h - 1) - 1), gx_r 300], t0, n, 0) _
    refine gx_ap rfl (fun _ => rfl) g0 rfl rfl rfl (show (h - 1) - 1 < 25 from by omega) (gx_run1 (show (h - 1) - 1 < 25 from by omega)) (gx_full (by first | decide | omega)) rfl (fun t103 g103 k103 e103 => ?_)
    have k4 : ai_hv t103 300 (h - 1) = some (.inl y) := (e103 300 (h - 1) (by first | decide | omega)).trans ky
    have k5 : ai_hv t103 299 2 = some (.inl s) := (e103 299 2 (by first | decide | omega)).trans ks
    have k6 : ai_hv t103 301 i = some (.inl 4294967294) := (e103 301 i (by first | decide | omega)).trans kz
    refine ex_go (S := (147, l2, [], t103, n, 0)) rfl (fun _ => rfl) rfl ?_
    refine gx_incS (i := 6) (a := i) (x := 1) rfl (fun _ => rfl) l2_6 (by first | decide | omega) rfl (fun l7 hl7 ml7 => ?_)
    have l7_0 : en_ld l7 0 = some (gx_r 299) := ml7 0 _ l2_0 rfl
    have l7_1 : en_ld l7 1 = some (.inl mo) := ml7 1 _ l2_1 rfl
    have l7_2 : en_ld l7 2 = some (.inl me) := ml7 2 _ l2_2 rfl
    have l7_3 : en_ld l7 3 = some (.inl ti) := ml7 3 _ l2_3 rfl
    have l7_4 : en_ld l7 4 = some (.inl ou) := ml7 4 _ l2_4 rfl
    have l7_7 : en_ld l7 7 = some (.inl 4294967294) := ml7 7 _ l2_7 rfl
    have l7_5 : en_ld l7 5 = some (.inl (h - 1)) := ml7 5 _ hl2 rfl
    refine ex_go (S := (6, l7, [], t103, n, 0)) rfl (fun _ => rfl) rfl ?_
    exact hQ _ t103 g103 (fun c j h9 => e103 c j (by first | decide | omega)) k103 l7_0 l7_1 l7_2 l7_3 l7_4 l7_5 hl7
  · refine gx_ld (i := 6) (d := 0) (v := .inl i) rfl (fun _ => rfl) h6 rfl rfl ?_
    refine gx_ld (i := 0) (d := 2) (v := gx_r 299) rfl (fun _ => rfl) h0 rfl rfl ?_
    refine gxo_get (a := 299) rfl g0 rfl rfl ks rfl ?_
    refine gx_2f (c := .ge) rfl (by first | decide | omega) (by first | decide | omega) (show ¬ (s ≤ i) from by omega) rfl ?_
    refine gx_ld (i := 0) (d := 2) (v := gx_r 299) rfl (fun _ => rfl) h0 rfl rfl ?_
    refine gxo_ref (a := 299) (c := 301) rfl g0 rfl rfl rfl rfl rfl ?_
    refine gx_ld (i := 6) (d := 0) (v := .inl i) rfl (fun _ => rfl) h6 rfl rfl ?_
    refine gx_ag (v := .inl 4294967293) (cb := fun c => Nat.beq c 0) rfl (fun _ => rfl) g0 rfl rfl kz (by first | decide | omega) rfl ?_
    refine gx_sto (i := 7) (d := 0) rfl (fun _ => rfl) rfl rfl (fun l1 hl1 ml1 => ?_)
    have l1_0 : en_ld l1 0 = some (gx_r 299) := ml1 0 _ h0 rfl
    have l1_1 : en_ld l1 1 = some (.inl mo) := ml1 1 _ hm rfl
    have l1_2 : en_ld l1 2 = some (.inl me) := ml1 2 _ ha rfl
    have l1_3 : en_ld l1 3 = some (.inl ti) := ml1 3 _ hb rfl
    have l1_4 : en_ld l1 4 = some (.inl ou) := ml1 4 _ ho4 rfl
    have l1_5 : en_ld l1 5 = some (.inl h) := ml1 5 _ h5 rfl
    have l1_6 : en_ld l1 6 = some (.inl i) := ml1 6 _ h6 rfl
    refine gx_ld (i := 7) (d := 0) (v := .inl 4294967293) rfl (fun _ => rfl) hl1 rfl rfl ?_
    refine ex_go (S := (27, l1, [.inl 4294967295, .inl 4294967293], t0, n, 0)) rfl (fun _ => rfl) rfl ?_
    refine ex_go (S := (64, l1, [], t0, n, 0)) rfl (fun _ => rfl) rfl ?_
    refine gx_ld (i := 7) (d := 0) (v := .inl 4294967293) rfl (fun _ => rfl) hl1 rfl rfl ?_
    refine ex_go (S := (69, l1, [], t0, n, 0)) rfl (fun _ => rfl) rfl ?_
    refine gx_ld (i := 7) (d := 0) (v := .inl 4294967293) rfl (fun _ => rfl) hl1 rfl rfl ?_
    refine ex_go (S := (73, l1, [.inl 4294967288, .inl 4294967293], t0, n, 0)) rfl (fun _ => rfl) rfl ?_
    refine ex_go (S := (76, l1, [], t0, n, 0)) rfl (fun _ => rfl) rfl ?_
    refine gx_ld (i := 5) (d := 0) (v := .inl h) rfl (fun _ => rfl) l1_5 rfl rfl ?_
    refine ex_go (S := (79, l1, [.inl 1, .inl h], t0, n, 0)) rfl (fun _ => rfl) rfl ?_
    refine gx_2f (c := .le) rfl (by first | decide | omega) (by first | decide | omega) (show ¬ (h ≤ 1) from by omega) rfl ?_
    refine gx_decS (i := 5) (a := h) rfl (fun _ => rfl) l1_5 (by first | decide | omega) (by first | decide | omega) rfl (fun l2 hl2 ml2 => ?_)
    have l2_0 : en_ld l2 0 = some (gx_r 299) := ml2 0 _ l1_0 rfl
    have l2_1 : en_ld l2 1 = some (.inl mo) := ml2 1 _ l1_1 rfl
    have l2_2 : en_ld l2 2 = some (.inl me) := ml2 2 _ l1_2 rfl
    have l2_3 : en_ld l2 3 = some (.inl ti) := ml2 3 _ l1_3 rfl
    have l2_4 : en_ld l2 4 = some (.inl ou) := ml2 4 _ l1_4 rfl
    have l2_6 : en_ld l2 6 = some (.inl i) := ml2 6 _ l1_6 rfl
    have l2_7 : en_ld l2 7 = some (.inl 4294967293) := ml2 7 _ hl1 rfl
    refine gx_ld (i := 0) (d := 2) (v := gx_r 299) rfl (fun _ => rfl) l2_0 rfl rfl ?_
    refine gxo_ref (a := 299) (c := 300) rfl g0 rfl rfl rfl rfl rfl ?_
    refine gx_ld (i := 5) (d := 0) (v := .inl (h - 1)) rfl (fun _ => rfl) hl2 rfl rfl ?_
    refine ex_go (S := (92, l2, [.inl 1, .inl (h - 1), gx_r 300], t0, n, 0)) rfl (fun _ => rfl) rfl ?_
    refine gx_isub rfl (by first | decide | omega) (by first | decide | omega) rfl ?_
    refine gx_ld (i := 7) (d := 0) (v := .inl 4294967293) rfl (fun _ => rfl) l2_7 rfl rfl ?_
    refine gx_ld (i := 0) (d := 2) (v := gx_r 299) rfl (fun _ => rfl) l2_0 rfl rfl ?_
    refine gxo_ref (a := 299) (c := 300) rfl g0 rfl rfl rfl rfl rfl ?_
    refine gx_ld (i := 5) (d := 0) (v := .inl (h - 1)) rfl (fun _ => rfl) hl2 rfl rfl ?_
    refine ex_go (S := (102, l2, [.inl 1, .inl (h - 1), gx_r 300, .inl 4294967293, .inl ((h - 1) - 1), gx_r 300], t0, n, 0)) rfl (fun _ => rfl) rfl ?_
    refine gx_isub rfl (by first | decide | omega) (by first | decide | omega) rfl ?_
    refine gx_ag (v := .inl x) (cb := fun c => Nat.beq c 0) rfl (fun _ => rfl) g0 rfl rfl kx (by first | decide | omega) rfl ?_
    refine gx_ld (i := 0) (d := 2) (v := gx_r 299) rfl (fun _ => rfl) l2_0 rfl rfl ?_
    refine gxo_ref (a := 299) (c := 300) rfl g0 rfl rfl rfl rfl rfl ?_
    refine gx_ld (i := 5) (d := 0) (v := .inl (h - 1)) rfl (fun _ => rfl) hl2 rfl rfl ?_
    refine gx_ag (v := .inl y) (cb := fun c => Nat.beq c 0) rfl (fun _ => rfl) g0 rfl rfl ky (by first | decide | omega) rfl ?_
    have hvb := vb_lt (o := opm 4294967293) (a := x) (b := y)
    refine ex_stat rfl rfl rfl rfl rfl (pc_joined d n (t0 := t0) (z := 4294967293) (x := x) (y := y) (by first | decide | omega) (by first | decide | omega) (by first | decide | omega)) (Nat.le_refl _) rfl ?_
    show en_ex _ _ _ _ (114, l2, [.inl (vb (opm 4294967293) x y), .inl ((h - 1) - 1), gx_r 300], t0, n, 0) _
    refine gx_ap rfl (fun _ => rfl) g0 rfl rfl rfl (show (h - 1) - 1 < 25 from by omega) (gx_run1 (show (h - 1) - 1 < 25 from by omega)) (gx_full (by first | decide | omega)) rfl (fun t103 g103 k103 e103 => ?_)
    have k4 : ai_hv t103 300 (h - 1) = some (.inl y) := (e103 300 (h - 1) (by first | decide | omega)).trans ky
    have k5 : ai_hv t103 299 2 = some (.inl s) := (e103 299 2 (by first | decide | omega)).trans ks
    have k6 : ai_hv t103 301 i = some (.inl 4294967293) := (e103 301 i (by first | decide | omega)).trans kz
    refine ex_go (S := (147, l2, [], t103, n, 0)) rfl (fun _ => rfl) rfl ?_
    refine gx_incS (i := 6) (a := i) (x := 1) rfl (fun _ => rfl) l2_6 (by first | decide | omega) rfl (fun l7 hl7 ml7 => ?_)
    have l7_0 : en_ld l7 0 = some (gx_r 299) := ml7 0 _ l2_0 rfl
    have l7_1 : en_ld l7 1 = some (.inl mo) := ml7 1 _ l2_1 rfl
    have l7_2 : en_ld l7 2 = some (.inl me) := ml7 2 _ l2_2 rfl
    have l7_3 : en_ld l7 3 = some (.inl ti) := ml7 3 _ l2_3 rfl
    have l7_4 : en_ld l7 4 = some (.inl ou) := ml7 4 _ l2_4 rfl
    have l7_7 : en_ld l7 7 = some (.inl 4294967293) := ml7 7 _ l2_7 rfl
    have l7_5 : en_ld l7 5 = some (.inl (h - 1)) := ml7 5 _ hl2 rfl
    refine ex_go (S := (6, l7, [], t103, n, 0)) rfl (fun _ => rfl) rfl ?_
    exact hQ _ t103 g103 (fun c j h9 => e103 c j (by first | decide | omega)) k103 l7_0 l7_1 l7_2 l7_3 l7_4 l7_5 hl7
theorem pv299_end (d n : Nat) {t0 : en_H} {cl : en_L} {mo me ti ou h i s v : Nat} {Q : en_O → Prop} (g0 : ai_HG ah_G t0) (h0 : en_ld cl 0 = some (gx_r 299)) (hm : en_ld cl 1 = some (.inl mo)) (ha : en_ld cl 2 = some (.inl me)) (hb : en_ld cl 3 = some (.inl ti)) (ho4 : en_ld cl 4 = some (.inl ou)) (h5 : en_ld cl 5 = some (.inl h)) (h6 : en_ld cl 6 = some (.inl i)) (ks : ai_hv t0 299 2 = some (.inl s)) (hs : s ≤ 1000) (hi : i = s) (hh : h = 1) (hmo : mo < 2147483648) (kv : ai_hv t0 300 0 = some (.inl v)) (hv : v < 4294967296) (hQ : Q (.inl (some (.inl (vcl mo v)), t0, n, 0))) : en_ex none (en_u (d + 1)) (en_code 210) (fun _ => false) (6, cl, [], t0, n, 0) Q := by
  refine gx_ld (i := 6) (d := 0) (v := .inl i) rfl (fun _ => rfl) h6 rfl rfl ?_
  refine gx_ld (i := 0) (d := 2) (v := gx_r 299) rfl (fun _ => rfl) h0 rfl rfl ?_
  refine gxo_get (a := 299) rfl g0 rfl rfl ks rfl ?_
  refine gx_2t (c := .ge) rfl (by first | decide | omega) (by first | decide | omega) (show s ≤ i from by omega) rfl ?_
  refine gx_ld (i := 5) (d := 0) (v := .inl h) rfl (fun _ => rfl) h5 rfl rfl ?_
  refine gx_1f (c := .le) rfl (by first | decide | omega) (show ¬ (h ≤ 0) from by omega) rfl ?_
  by_cases hvn : v < 2147483648
  · rw [vcl_n hvn] at hQ
    refine ex_go (S := (159, cl, [.inl 0], t0, n, 0)) rfl (fun _ => rfl) rfl ?_
    refine gx_ld (i := 1) (d := 0) (v := .inl mo) rfl (fun _ => rfl) hm rfl rfl ?_
    refine gx_ld (i := 0) (d := 2) (v := gx_r 299) rfl (fun _ => rfl) h0 rfl rfl ?_
    refine gxo_ref (a := 299) (c := 300) rfl g0 rfl rfl rfl rfl rfl ?_
    refine ex_go (S := (165, cl, [.inl 0, gx_r 300, .inl mo, .inl 0], t0, n, 0)) rfl (fun _ => rfl) rfl ?_
    refine gx_ag (v := .inl v) (cb := fun c => Nat.beq c 0) rfl (fun _ => rfl) g0 rfl rfl kv (by first | decide | omega) rfl ?_
    refine gx_inn rfl rfl rfl (zk_min (by first | decide | omega) (by first | decide | omega)) rfl rfl ?_
    refine gx_imm (m := min mo v) rfl rfl ((zk_max (by first | decide | omega) (by first | decide | omega)).trans (by rw [Nat.zero_max])) rfl rfl ?_
    refine ex_go (S := (176, cl, [.inl (min mo v)], t0, n, 0)) rfl (fun _ => rfl) rfl ?_
    refine ex_ret (r := (some (.inl (min mo v)), t0, n, 0)) rfl (fun _ => rfl) ?_
    exact hQ
  · rw [vcl_0 hvn] at hQ
    refine ex_go (S := (159, cl, [.inl 0], t0, n, 0)) rfl (fun _ => rfl) rfl ?_
    refine gx_ld (i := 1) (d := 0) (v := .inl mo) rfl (fun _ => rfl) hm rfl rfl ?_
    refine gx_ld (i := 0) (d := 2) (v := gx_r 299) rfl (fun _ => rfl) h0 rfl rfl ?_
    refine gxo_ref (a := 299) (c := 300) rfl g0 rfl rfl rfl rfl rfl ?_
    refine ex_go (S := (165, cl, [.inl 0, gx_r 300, .inl mo, .inl 0], t0, n, 0)) rfl (fun _ => rfl) rfl ?_
    refine gx_ag (v := .inl v) (cb := fun c => Nat.beq c 0) rfl (fun _ => rfl) g0 rfl rfl kv (by first | decide | omega) rfl ?_
    refine gx_inn (m := v) rfl rfl rfl (zk_minn (by first | decide | omega) (by first | decide | omega) (by first | decide | omega)) rfl rfl ?_
    refine gx_imm (m := 0) rfl rfl (zk_maxn (by first | decide | omega) (by first | decide | omega)) rfl rfl ?_
    refine ex_go (S := (176, cl, [.inl 0], t0, n, 0)) rfl (fun _ => rfl) rfl ?_
    refine ex_ret (r := (some (.inl 0), t0, n, 0)) rfl (fun _ => rfl) ?_
    exact hQ
theorem pv299_l (d n : Nat) {tb : en_H} {mo me ti ou s : Nat} (hmo : mo < 2147483648) (hme : me < 4294967296) (hti : ti < 4294967296) (hou : ou < 4294967296) (kb : ai_hv tb 299 2 = some (.inl s)) (hs : s ≤ 1000) : ∀ (L : List Nat) (i : Nat) (q : List Nat) (cl : en_L) (t0 : en_H), cco tb 299 i L → i + L.length = s → (∀ z, z ∈ L → ∃ fh, vo fh z) → hrun 25 L q.length = some 1 → q.length ≤ 25 → ai_HG ah_G t0 → (∀ c i, c ≠ 300 → ai_hv t0 c i = ai_hv tb c i) → stk t0 300 q → en_ld cl 0 = some (gx_r 299) → en_ld cl 1 = some (.inl mo) → en_ld cl 2 = some (.inl me) → en_ld cl 3 = some (.inl ti) → en_ld cl 4 = some (.inl ou) → en_ld cl 5 = some (.inl q.length) → en_ld cl 6 = some (.inl i) → en_ex none (en_u (d + 1)) (en_code 210) (fun _ => false) (6, cl, [], t0, n, 0) (fun o => ∃ v t1, o = .inl (some (.inl (vcl mo v)), t1, n, 0) ∧ vrun me ti ou L q = [v] ∧ v < 4294967296 ∧ ai_HG ah_G t1 ∧ (∀ c i, c ≠ 300 → ai_hv t1 c i = ai_hv tb c i))
  | [], i, q, cl, t0, hc, hi, hv, hr, hq, g0, e0, hst, l0, l1, l2, l3, l4, l5, l6 => by
    have hr : some q.length = some 1 := hr
    have hl := Option.some.inj hr
    match q, hl, hst, l5 with
    | [v], _, hst, l5 =>
      exact pv299_end d n g0 l0 l1 l2 l3 l4 l5 l6 ((e0 299 2 (by decide)).trans kb) hs hi rfl hmo hst.1 hst.2.1 ⟨v, t0, rfl, rfl, hst.2.1, g0, e0⟩
  | z :: L, i, q, cl, t0, hc, hi, hv, hr, hq, g0, e0, hst, l0, l1, l2, l3, l4, l5, l6 => by
    obtain ⟨c1, c3⟩ := hc
    have hi' : i + (L.length + 1) = s := hi
    have hvz := hv z List.mem_cons_self
    have hvL : ∀ z, z ∈ L → ∃ fh, vo fh z := fun z hz => hv z (List.mem_cons_of_mem _ hz)
    have hr : (if vk z = 0 then (if q.length < 25 then hrun 25 L (q.length + 1) else none) else if vk z = 1 then (if 1 ≤ q.length then hrun 25 L q.length else none) else (if 2 ≤ q.length then hrun 25 L (q.length - 1) else none)) = some 1 := hr
    have k1 : ai_hv t0 301 i = some (.inl z) := (e0 301 i (by decide)).trans c1
    have ks := (e0 299 2 (by decide)).trans kb
    show en_ex none (en_u (d + 1)) (en_code 210) (fun _ => false) (6, cl, [], t0, n, 0) (fun o => ∃ v t1, o = .inl (some (.inl (vcl mo v)), t1, n, 0) ∧ vrun me ti ou L (vs me ti ou z q) = [v] ∧ v < 4294967296 ∧ ai_HG ah_G t1 ∧ (∀ c i, c ≠ 300 → ai_hv t1 c i = ai_hv tb c i))
    by_cases z0 : vk z = 0
    · rw [if_pos z0] at hr
      by_cases hq2 : q.length < 25
      · rw [if_pos hq2] at hr
        have hvs : vs me ti ou z q = vpt me ti ou z :: q := by unfold vs; rw [if_pos z0]
        rw [hvs]
        have hz := vk_nn z0 (Or.inr hvz)
        have hvp : vpt me ti ou z < 4294967296 := vpt_lt hme hti hou hz
        exact pv299_val d n g0 l0 l1 l2 l3 l4 l5 l6 ks hs (by first | decide | omega) hq hme hti hou hz k1 hq2 (fun cl' t' g' e' k' m0 m1 m2 m3 m4 m5 m6 => pv299_l d n hmo hme hti hou kb hs L (i + 1) (vpt me ti ou z :: q) cl' t' c3 (by first | decide | omega) hvL hr (by show q.length + 1 ≤ 25; omega) g' (fun c j h9 => (e' c j (by first | decide | omega)).trans (e0 c j h9)) ⟨k', hvp, stk_keep hst (fun j hj => e' 300 j (by first | decide | omega))⟩ m0 m1 m2 m3 m4 m5 m6)
      · rw [if_neg hq2] at hr
        cases hr
    · rw [if_neg z0] at hr
      by_cases z1 : vk z = 1
      · rw [if_pos z1] at hr
        match q, hst, hr, hq, l5 with
        | [], hst, hr, hq, l5 => exact absurd hr (by rw [if_neg (by decide)]; exact fun z => by cases z)
        | x :: r, hst, hr, hq, l5 =>
          have hr : hrun 25 L (r.length + 1) = some 1 := by rw [← hr]; exact (if_pos (Nat.succ_le_succ (Nat.zero_le _))).symm
          have hvs : vs me ti ou z (x :: r) = vnot x :: r := by unfold vs; rw [if_neg z0, if_pos z1]
          rw [hvs]
          rw [vk_1 z1] at k1
          have hq' : r.length + 1 ≤ 25 := hq
          have l5' : en_ld cl 5 = some (.inl (r.length + 1)) := l5
          have kx : ai_hv t0 300 (r.length + 1 - 1) = some (.inl x) := hst.1
          exact pv299_not d n g0 l0 l1 l2 l3 l4 l5' l6 ks hs (by first | decide | omega) hq' hme hti hou k1 (by first | decide | omega) kx hst.2.1 (fun cl' t' g' e' k' m0 m1 m2 m3 m4 m5 m6 => pv299_l d n hmo hme hti hou kb hs L (i + 1) (vnot x :: r) cl' t' c3 (by first | decide | omega) hvL hr hq' g' (fun c j h9 => (e' c j (by first | decide | omega)).trans (e0 c j h9)) ⟨k', vnot_lt, stk_keep hst.2.2 (fun j hj => e' 300 j (by first | decide | omega))⟩ m0 m1 m2 m3 m4 m5 m6)
      · rw [if_neg z1] at hr
        match q, hst, hr, hq, l5 with
        | [], hst, hr, hq, l5 => exact absurd hr (by rw [if_neg (by decide)]; exact fun z => by cases z)
        | [x], hst, hr, hq, l5 => exact absurd hr (by rw [if_neg (show ¬ 2 ≤ [x].length from (by show ¬ 2 ≤ 1; decide))]; exact fun z => by cases z)
        | y :: x :: r, hst, hr, hq, l5 =>
          have hr : hrun 25 L (r.length + 1) = some 1 := by rw [← hr]; exact (if_pos (Nat.succ_le_succ (Nat.succ_le_succ (Nat.zero_le _)))).symm
          have hvs : vs me ti ou z (y :: x :: r) = vb (opm z) x y :: r := by unfold vs; rw [if_neg z0, if_neg z1]
          rw [hvs]
          have hzz := vo_cd z0 z1
          have hq' : r.length + 1 + 1 ≤ 25 := hq
          have l5' : en_ld cl 5 = some (.inl (r.length + 1 + 1)) := l5
          have ky : ai_hv t0 300 (r.length + 1 + 1 - 1) = some (.inl y) := hst.1
          have kx : ai_hv t0 300 (r.length + 1 + 1 - 1 - 1) = some (.inl x) := hst.2.2.1
          exact pv299_bin d n g0 l0 l1 l2 l3 l4 l5' l6 ks hs (by first | decide | omega) hq' hme hti hou (by first | decide | omega) k1 (by first | decide | omega) ky hst.2.1 kx hst.2.2.2.1 (fun cl' t' g' e' k' m0 m1 m2 m3 m4 m5 m6 => pv299_l d n hmo hme hti hou kb hs L (i + 1) (vb (opm z) x y :: r) cl' t' c3 (by first | decide | omega) hvL hr (by show r.length + 1 ≤ 25; omega) g' (fun c j h9 => (e' c j (by first | decide | omega)).trans (e0 c j h9)) ⟨k', vb_lt, stk_keep hst.2.2.2.2 (fun j hj => e' 300 j (by first | decide | omega))⟩ m0 m1 m2 m3 m4 m5 m6)
theorem pc_value299 (d n : Nat) {t0 : en_H} {mo me ti ou : Nat} {L : List Nat} (g0 : ai_HG ah_G t0) (hmo : mo < 2147483648) (hme : me < 4294967296) (hti : ti < 4294967296) (hou : ou < 4294967296) (kb : ai_hv t0 299 2 = some (.inl L.length)) (hs : L.length ≤ 1000) (hc : cco t0 299 0 L) (hv : ∀ z, z ∈ L → ∃ fh, vo fh z) (hr : hrun 25 L 0 = some 1) : ∃ r, en_u (d + 2) 210 [gx_r 299, .inl mo, .inl me, .inl ti, .inl ou] t0 n = some r ∧ ∃ v t', r = (some (.inl (vcl mo v)), t', n, 0) ∧ vrun me ti ou L [] = [v] ∧ v < 4294967296 ∧ ai_HG ah_G t' ∧ (∀ c i, c ≠ 300 → ai_hv t' c i = ai_hv t0 c i) := by
  refine en_u_ex (d := d + 1) rfl ?_
  show en_ex _ _ _ _ (0, [(0, gx_r 299), (1, .inl mo), (2, .inl me), (3, .inl ti), (4, .inl ou)], [], t0, n, 0) _
  refine ex_go (S := (1, [(0, gx_r 299), (1, .inl mo), (2, .inl me), (3, .inl ti), (4, .inl ou)], [.inl 0], t0, n, 0)) rfl (fun _ => rfl) rfl ?_
  refine ex_go (S := (3, [(5, .inl 0), (0, gx_r 299), (1, .inl mo), (2, .inl me), (3, .inl ti), (4, .inl ou)], [], t0, n, 0)) rfl (fun _ => rfl) rfl ?_
  refine ex_go (S := (4, [(5, .inl 0), (0, gx_r 299), (1, .inl mo), (2, .inl me), (3, .inl ti), (4, .inl ou)], [.inl 0], t0, n, 0)) rfl (fun _ => rfl) rfl ?_
  refine ex_go (S := (6, [(6, .inl 0), (5, .inl 0), (0, gx_r 299), (1, .inl mo), (2, .inl me), (3, .inl ti), (4, .inl ou)], [], t0, n, 0)) rfl (fun _ => rfl) rfl ?_
  exact ex_imp (fun o9 h9 => by
    obtain ⟨v, t1, h8, h7⟩ := h9
    exact ⟨_, h8, v, t1, rfl, h7⟩) (pv299_l d n hmo hme hti hou kb hs L 0 [] _ t0 hc (Nat.zero_add _) hv hr (by decide) g0 (fun c i h => rfl) trivial rfl rfl rfl rfl rfl rfl rfl)
theorem pv302_val (d n : Nat) {t0 : en_H} {cl : en_L} {mo me ti ou h i s z : Nat} {Q : en_O → Prop} (g0 : ai_HG ah_G t0) (h0 : en_ld cl 0 = some (gx_r 302)) (hm : en_ld cl 1 = some (.inl mo)) (ha : en_ld cl 2 = some (.inl me)) (hb : en_ld cl 3 = some (.inl ti)) (ho4 : en_ld cl 4 = some (.inl ou)) (h5 : en_ld cl 5 = some (.inl h)) (h6 : en_ld cl 6 = some (.inl i)) (ks : ai_hv t0 302 2 = some (.inl s)) (hs : s ≤ 1000) (hi : i < s) (hh : h ≤ 25) (hme : me < 4294967296) (hti : ti < 4294967296) (hou : ou < 4294967296) (hz : z < 2147483648 ∨ z = 4294967286 ∨ z = 4294967287 ∨ z = 4294967285) (kz : ai_hv t0 304 i = some (.inl z)) (hh2 : h < 25) (hQ : ∀ cl' t', ai_HG ah_G t' → (∀ c j, ¬ (c = 303 ∧ j = h) → ai_hv t' c j = ai_hv t0 c j) → ai_hv t' 303 (h) = some (.inl (vpt me ti ou z)) → en_ld cl' 0 = some (gx_r 302) → en_ld cl' 1 = some (.inl mo) → en_ld cl' 2 = some (.inl me) → en_ld cl' 3 = some (.inl ti) → en_ld cl' 4 = some (.inl ou) → en_ld cl' 5 = some (.inl (h + 1)) → en_ld cl' 6 = some (.inl (i + 1)) → en_ex none (en_u (d + 1)) (en_code 210) (fun _ => false) (6, cl', [], t', n, 0) Q) : en_ex none (en_u (d + 1)) (en_code 210) (fun _ => false) (6, cl, [], t0, n, 0) Q := by
  rcases hz with hz | rfl | rfl | rfl
  · refine gx_ld (i := 6) (d := 0) (v := .inl i) rfl (fun _ => rfl) h6 rfl rfl ?_
    refine gx_ld (i := 0) (d := 2) (v := gx_r 302) rfl (fun _ => rfl) h0 rfl rfl ?_
    refine gxo_get (a := 302) rfl g0 rfl rfl ks rfl ?_
    refine gx_2f (c := .ge) rfl (by first | decide | omega) (by first | decide | omega) (show ¬ (s ≤ i) from by omega) rfl ?_
    refine gx_ld (i := 0) (d := 2) (v := gx_r 302) rfl (fun _ => rfl) h0 rfl rfl ?_
    refine gxo_ref (a := 302) (c := 304) rfl g0 rfl rfl rfl rfl rfl ?_
    refine gx_ld (i := 6) (d := 0) (v := .inl i) rfl (fun _ => rfl) h6 rfl rfl ?_
    refine gx_ag (v := .inl z) (cb := fun c => Nat.beq c 0) rfl (fun _ => rfl) g0 rfl rfl kz (by first | decide | omega) rfl ?_
    refine gx_sto (i := 7) (d := 0) rfl (fun _ => rfl) rfl rfl (fun l1 hl1 ml1 => ?_)
    have l1_0 : en_ld l1 0 = some (gx_r 302) := ml1 0 _ h0 rfl
    have l1_1 : en_ld l1 1 = some (.inl mo) := ml1 1 _ hm rfl
    have l1_2 : en_ld l1 2 = some (.inl me) := ml1 2 _ ha rfl
    have l1_3 : en_ld l1 3 = some (.inl ti) := ml1 3 _ hb rfl
    have l1_4 : en_ld l1 4 = some (.inl ou) := ml1 4 _ ho4 rfl
    have l1_5 : en_ld l1 5 = some (.inl h) := ml1 5 _ h5 rfl
    have l1_6 : en_ld l1 6 = some (.inl i) := ml1 6 _ h6 rfl
    refine gx_ld (i := 7) (d := 0) (v := .inl z) rfl (fun _ => rfl) hl1 rfl rfl ?_
    refine ex_go (S := (27, l1, [.inl 4294967295, .inl z], t0, n, 0)) rfl (fun _ => rfl) rfl ?_
    refine gx_2mt (c := .ne) rfl (by first | decide | omega) rfl rfl ?_
    refine gx_ld (i := 7) (d := 0) (v := .inl z) rfl (fun _ => rfl) hl1 rfl rfl ?_
    refine gx_1t (c := .ge) rfl (by first | decide | omega) (show 0 ≤ z from by omega) rfl ?_
    refine gx_ld (i := 5) (d := 0) (v := .inl h) rfl (fun _ => rfl) l1_5 rfl rfl ?_
    refine gx_ld (i := 0) (d := 2) (v := gx_r 302) rfl (fun _ => rfl) l1_0 rfl rfl ?_
    refine gxo_ref (a := 302) (c := 303) rfl g0 rfl rfl rfl rfl rfl ?_
    refine gx_alen (a := 303) (m := 25) rfl g0 rfl rfl rfl ?_
    refine gx_2f (c := .ge) rfl (by first | decide | omega) (by first | decide | omega) (show ¬ (25 ≤ h) from by omega) rfl ?_
    refine gx_ld (i := 0) (d := 2) (v := gx_r 302) rfl (fun _ => rfl) l1_0 rfl rfl ?_
    refine gxo_ref (a := 302) (c := 303) rfl g0 rfl rfl rfl rfl rfl ?_
    refine gx_ld (i := 5) (d := 0) (v := .inl h) rfl (fun _ => rfl) l1_5 rfl rfl ?_
    refine gx_ld (i := 7) (d := 0) (v := .inl z) rfl (fun _ => rfl) hl1 rfl rfl ?_
    refine gx_ld (i := 2) (d := 0) (v := .inl me) rfl (fun _ => rfl) l1_2 rfl rfl ?_
    refine gx_ld (i := 3) (d := 0) (v := .inl ti) rfl (fun _ => rfl) l1_3 rfl rfl ?_
    refine gx_ld (i := 4) (d := 0) (v := .inl ou) rfl (fun _ => rfl) l1_4 rfl rfl ?_
    have hvp : vpt me ti ou z < 4294967296 := vpt_lt hme hti hou (by first | decide | omega)
    refine ex_stat rfl rfl rfl rfl rfl (pc_part d n (t0 := t0) (z := z) (me := me) (ti := ti) (ou := ou) (by first | decide | omega)) (Nat.le_refl _) rfl ?_
    show en_ex _ _ _ _ (143, l1, [.inl (vpt me ti ou z), .inl h, gx_r 303], t0, n, 0) _
    refine gx_ap rfl (fun _ => rfl) g0 rfl rfl rfl (show h < 25 from by omega) (gx_run1 (show h < 25 from by omega)) (gx_full (by first | decide | omega)) rfl (fun t102 g102 k102 e102 => ?_)
    have k3 : ai_hv t102 302 2 = some (.inl s) := (e102 302 2 (by first | decide | omega)).trans ks
    have k4 : ai_hv t102 304 i = some (.inl z) := (e102 304 i (by first | decide | omega)).trans kz
    refine gx_incS (i := 5) (a := h) (x := 1) rfl (fun _ => rfl) l1_5 (by first | decide | omega) rfl (fun l5 hl5 ml5 => ?_)
    have l5_0 : en_ld l5 0 = some (gx_r 302) := ml5 0 _ l1_0 rfl
    have l5_1 : en_ld l5 1 = some (.inl mo) := ml5 1 _ l1_1 rfl
    have l5_2 : en_ld l5 2 = some (.inl me) := ml5 2 _ l1_2 rfl
    have l5_3 : en_ld l5 3 = some (.inl ti) := ml5 3 _ l1_3 rfl
    have l5_4 : en_ld l5 4 = some (.inl ou) := ml5 4 _ l1_4 rfl
    have l5_6 : en_ld l5 6 = some (.inl i) := ml5 6 _ l1_6 rfl
    have l5_7 : en_ld l5 7 = some (.inl z) := ml5 7 _ hl1 rfl
    refine gx_incS (i := 6) (a := i) (x := 1) rfl (fun _ => rfl) l5_6 (by first | decide | omega) rfl (fun l6 hl6 ml6 => ?_)
    have l6_0 : en_ld l6 0 = some (gx_r 302) := ml6 0 _ l5_0 rfl
    have l6_1 : en_ld l6 1 = some (.inl mo) := ml6 1 _ l5_1 rfl
    have l6_2 : en_ld l6 2 = some (.inl me) := ml6 2 _ l5_2 rfl
    have l6_3 : en_ld l6 3 = some (.inl ti) := ml6 3 _ l5_3 rfl
    have l6_4 : en_ld l6 4 = some (.inl ou) := ml6 4 _ l5_4 rfl
    have l6_7 : en_ld l6 7 = some (.inl z) := ml6 7 _ l5_7 rfl
    have l6_5 : en_ld l6 5 = some (.inl (h + 1)) := ml6 5 _ hl5 rfl
    refine ex_go (S := (6, l6, [], t102, n, 0)) rfl (fun _ => rfl) rfl ?_
    exact hQ _ t102 g102 (fun c j h9 => e102 c j (by first | decide | omega)) k102 l6_0 l6_1 l6_2 l6_3 l6_4 l6_5 hl6
  · refine gx_ld (i := 6) (d := 0) (v := .inl i) rfl (fun _ => rfl) h6 rfl rfl ?_
    refine gx_ld (i := 0) (d := 2) (v := gx_r 302) rfl (fun _ => rfl) h0 rfl rfl ?_
    refine gxo_get (a := 302) rfl g0 rfl rfl ks rfl ?_
    refine gx_2f (c := .ge) rfl (by first | decide | omega) (by first | decide | omega) (show ¬ (s ≤ i) from by omega) rfl ?_
    refine gx_ld (i := 0) (d := 2) (v := gx_r 302) rfl (fun _ => rfl) h0 rfl rfl ?_
    refine gxo_ref (a := 302) (c := 304) rfl g0 rfl rfl rfl rfl rfl ?_
    refine gx_ld (i := 6) (d := 0) (v := .inl i) rfl (fun _ => rfl) h6 rfl rfl ?_
    refine gx_ag (v := .inl 4294967286) (cb := fun c => Nat.beq c 0) rfl (fun _ => rfl) g0 rfl rfl kz (by first | decide | omega) rfl ?_
    refine gx_sto (i := 7) (d := 0) rfl (fun _ => rfl) rfl rfl (fun l1 hl1 ml1 => ?_)
    have l1_0 : en_ld l1 0 = some (gx_r 302) := ml1 0 _ h0 rfl
    have l1_1 : en_ld l1 1 = some (.inl mo) := ml1 1 _ hm rfl
    have l1_2 : en_ld l1 2 = some (.inl me) := ml1 2 _ ha rfl
    have l1_3 : en_ld l1 3 = some (.inl ti) := ml1 3 _ hb rfl
    have l1_4 : en_ld l1 4 = some (.inl ou) := ml1 4 _ ho4 rfl
    have l1_5 : en_ld l1 5 = some (.inl h) := ml1 5 _ h5 rfl
    have l1_6 : en_ld l1 6 = some (.inl i) := ml1 6 _ h6 rfl
    refine gx_ld (i := 7) (d := 0) (v := .inl 4294967286) rfl (fun _ => rfl) hl1 rfl rfl ?_
    refine ex_go (S := (27, l1, [.inl 4294967295, .inl 4294967286], t0, n, 0)) rfl (fun _ => rfl) rfl ?_
    refine ex_go (S := (64, l1, [], t0, n, 0)) rfl (fun _ => rfl) rfl ?_
    refine gx_ld (i := 7) (d := 0) (v := .inl 4294967286) rfl (fun _ => rfl) hl1 rfl rfl ?_
    refine ex_go (S := (69, l1, [], t0, n, 0)) rfl (fun _ => rfl) rfl ?_
    refine gx_ld (i := 7) (d := 0) (v := .inl 4294967286) rfl (fun _ => rfl) hl1 rfl rfl ?_
    refine ex_go (S := (73, l1, [.inl 4294967288, .inl 4294967286], t0, n, 0)) rfl (fun _ => rfl) rfl ?_
    refine ex_go (S := (118, l1, [], t0, n, 0)) rfl (fun _ => rfl) rfl ?_
    refine gx_ld (i := 5) (d := 0) (v := .inl h) rfl (fun _ => rfl) l1_5 rfl rfl ?_
    refine gx_ld (i := 0) (d := 2) (v := gx_r 302) rfl (fun _ => rfl) l1_0 rfl rfl ?_
    refine gxo_ref (a := 302) (c := 303) rfl g0 rfl rfl rfl rfl rfl ?_
    refine gx_alen (a := 303) (m := 25) rfl g0 rfl rfl rfl ?_
    refine gx_2f (c := .ge) rfl (by first | decide | omega) (by first | decide | omega) (show ¬ (25 ≤ h) from by omega) rfl ?_
    refine gx_ld (i := 0) (d := 2) (v := gx_r 302) rfl (fun _ => rfl) l1_0 rfl rfl ?_
    refine gxo_ref (a := 302) (c := 303) rfl g0 rfl rfl rfl rfl rfl ?_
    refine gx_ld (i := 5) (d := 0) (v := .inl h) rfl (fun _ => rfl) l1_5 rfl rfl ?_
    refine gx_ld (i := 7) (d := 0) (v := .inl 4294967286) rfl (fun _ => rfl) hl1 rfl rfl ?_
    refine gx_ld (i := 2) (d := 0) (v := .inl me) rfl (fun _ => rfl) l1_2 rfl rfl ?_
    refine gx_ld (i := 3) (d := 0) (v := .inl ti) rfl (fun _ => rfl) l1_3 rfl rfl ?_
    refine gx_ld (i := 4) (d := 0) (v := .inl ou) rfl (fun _ => rfl) l1_4 rfl rfl ?_
    have hvp : vpt me ti ou 4294967286 < 4294967296 := vpt_lt hme hti hou (by first | decide | omega)
    refine ex_stat rfl rfl rfl rfl rfl (pc_part d n (t0 := t0) (z := 4294967286) (me := me) (ti := ti) (ou := ou) (by first | decide | omega)) (Nat.le_refl _) rfl ?_
    show en_ex _ _ _ _ (143, l1, [.inl (vpt me ti ou 4294967286), .inl h, gx_r 303], t0, n, 0) _
    refine gx_ap rfl (fun _ => rfl) g0 rfl rfl rfl (show h < 25 from by omega) (gx_run1 (show h < 25 from by omega)) (gx_full (by first | decide | omega)) rfl (fun t102 g102 k102 e102 => ?_)
    have k3 : ai_hv t102 302 2 = some (.inl s) := (e102 302 2 (by first | decide | omega)).trans ks
    have k4 : ai_hv t102 304 i = some (.inl 4294967286) := (e102 304 i (by first | decide | omega)).trans kz
    refine gx_incS (i := 5) (a := h) (x := 1) rfl (fun _ => rfl) l1_5 (by first | decide | omega) rfl (fun l5 hl5 ml5 => ?_)
    have l5_0 : en_ld l5 0 = some (gx_r 302) := ml5 0 _ l1_0 rfl
    have l5_1 : en_ld l5 1 = some (.inl mo) := ml5 1 _ l1_1 rfl
    have l5_2 : en_ld l5 2 = some (.inl me) := ml5 2 _ l1_2 rfl
    have l5_3 : en_ld l5 3 = some (.inl ti) := ml5 3 _ l1_3 rfl
    have l5_4 : en_ld l5 4 = some (.inl ou) := ml5 4 _ l1_4 rfl
    have l5_6 : en_ld l5 6 = some (.inl i) := ml5 6 _ l1_6 rfl
    have l5_7 : en_ld l5 7 = some (.inl 4294967286) := ml5 7 _ hl1 rfl
    refine gx_incS (i := 6) (a := i) (x := 1) rfl (fun _ => rfl) l5_6 (by first | decide | omega) rfl (fun l6 hl6 ml6 => ?_)
    have l6_0 : en_ld l6 0 = some (gx_r 302) := ml6 0 _ l5_0 rfl
    have l6_1 : en_ld l6 1 = some (.inl mo) := ml6 1 _ l5_1 rfl
    have l6_2 : en_ld l6 2 = some (.inl me) := ml6 2 _ l5_2 rfl
    have l6_3 : en_ld l6 3 = some (.inl ti) := ml6 3 _ l5_3 rfl
    have l6_4 : en_ld l6 4 = some (.inl ou) := ml6 4 _ l5_4 rfl
    have l6_7 : en_ld l6 7 = some (.inl 4294967286) := ml6 7 _ l5_7 rfl
    have l6_5 : en_ld l6 5 = some (.inl (h + 1)) := ml6 5 _ hl5 rfl
    refine ex_go (S := (6, l6, [], t102, n, 0)) rfl (fun _ => rfl) rfl ?_
    exact hQ _ t102 g102 (fun c j h9 => e102 c j (by first | decide | omega)) k102 l6_0 l6_1 l6_2 l6_3 l6_4 l6_5 hl6
  · refine gx_ld (i := 6) (d := 0) (v := .inl i) rfl (fun _ => rfl) h6 rfl rfl ?_
    refine gx_ld (i := 0) (d := 2) (v := gx_r 302) rfl (fun _ => rfl) h0 rfl rfl ?_
    refine gxo_get (a := 302) rfl g0 rfl rfl ks rfl ?_
    refine gx_2f (c := .ge) rfl (by first | decide | omega) (by first | decide | omega) (show ¬ (s ≤ i) from by omega) rfl ?_
    refine gx_ld (i := 0) (d := 2) (v := gx_r 302) rfl (fun _ => rfl) h0 rfl rfl ?_
    refine gxo_ref (a := 302) (c := 304) rfl g0 rfl rfl rfl rfl rfl ?_
    refine gx_ld (i := 6) (d := 0) (v := .inl i) rfl (fun _ => rfl) h6 rfl rfl ?_
    refine gx_ag (v := .inl 4294967287) (cb := fun c => Nat.beq c 0) rfl (fun _ => rfl) g0 rfl rfl kz (by first | decide | omega) rfl ?_
    refine gx_sto (i := 7) (d := 0) rfl (fun _ => rfl) rfl rfl (fun l1 hl1 ml1 => ?_)
    have l1_0 : en_ld l1 0 = some (gx_r 302) := ml1 0 _ h0 rfl
    have l1_1 : en_ld l1 1 = some (.inl mo) := ml1 1 _ hm rfl
    have l1_2 : en_ld l1 2 = some (.inl me) := ml1 2 _ ha rfl
    have l1_3 : en_ld l1 3 = some (.inl ti) := ml1 3 _ hb rfl
    have l1_4 : en_ld l1 4 = some (.inl ou) := ml1 4 _ ho4 rfl
    have l1_5 : en_ld l1 5 = some (.inl h) := ml1 5 _ h5 rfl
    have l1_6 : en_ld l1 6 = some (.inl i) := ml1 6 _ h6 rfl
    refine gx_ld (i := 7) (d := 0) (v := .inl 4294967287) rfl (fun _ => rfl) hl1 rfl rfl ?_
    refine ex_go (S := (27, l1, [.inl 4294967295, .inl 4294967287], t0, n, 0)) rfl (fun _ => rfl) rfl ?_
    refine ex_go (S := (64, l1, [], t0, n, 0)) rfl (fun _ => rfl) rfl ?_
    refine gx_ld (i := 7) (d := 0) (v := .inl 4294967287) rfl (fun _ => rfl) hl1 rfl rfl ?_
    refine ex_go (S := (69, l1, [], t0, n, 0)) rfl (fun _ => rfl) rfl ?_
    refine gx_ld (i := 7) (d := 0) (v := .inl 4294967287) rfl (fun _ => rfl) hl1 rfl rfl ?_
    refine ex_go (S := (73, l1, [.inl 4294967288, .inl 4294967287], t0, n, 0)) rfl (fun _ => rfl) rfl ?_
    refine ex_go (S := (118, l1, [], t0, n, 0)) rfl (fun _ => rfl) rfl ?_
    refine gx_ld (i := 5) (d := 0) (v := .inl h) rfl (fun _ => rfl) l1_5 rfl rfl ?_
    refine gx_ld (i := 0) (d := 2) (v := gx_r 302) rfl (fun _ => rfl) l1_0 rfl rfl ?_
    refine gxo_ref (a := 302) (c := 303) rfl g0 rfl rfl rfl rfl rfl ?_
    refine gx_alen (a := 303) (m := 25) rfl g0 rfl rfl rfl ?_
    refine gx_2f (c := .ge) rfl (by first | decide | omega) (by first | decide | omega) (show ¬ (25 ≤ h) from by omega) rfl ?_
    refine gx_ld (i := 0) (d := 2) (v := gx_r 302) rfl (fun _ => rfl) l1_0 rfl rfl ?_
    refine gxo_ref (a := 302) (c := 303) rfl g0 rfl rfl rfl rfl rfl ?_
    refine gx_ld (i := 5) (d := 0) (v := .inl h) rfl (fun _ => rfl) l1_5 rfl rfl ?_
    refine gx_ld (i := 7) (d := 0) (v := .inl 4294967287) rfl (fun _ => rfl) hl1 rfl rfl ?_
    refine gx_ld (i := 2) (d := 0) (v := .inl me) rfl (fun _ => rfl) l1_2 rfl rfl ?_
    refine gx_ld (i := 3) (d := 0) (v := .inl ti) rfl (fun _ => rfl) l1_3 rfl rfl ?_
    refine gx_ld (i := 4) (d := 0) (v := .inl ou) rfl (fun _ => rfl) l1_4 rfl rfl ?_
    have hvp : vpt me ti ou 4294967287 < 4294967296 := vpt_lt hme hti hou (by first | decide | omega)
    refine ex_stat rfl rfl rfl rfl rfl (pc_part d n (t0 := t0) (z := 4294967287) (me := me) (ti := ti) (ou := ou) (by first | decide | omega)) (Nat.le_refl _) rfl ?_
    show en_ex _ _ _ _ (143, l1, [.inl (vpt me ti ou 4294967287), .inl h, gx_r 303], t0, n, 0) _
    refine gx_ap rfl (fun _ => rfl) g0 rfl rfl rfl (show h < 25 from by omega) (gx_run1 (show h < 25 from by omega)) (gx_full (by first | decide | omega)) rfl (fun t102 g102 k102 e102 => ?_)
    have k3 : ai_hv t102 302 2 = some (.inl s) := (e102 302 2 (by first | decide | omega)).trans ks
    have k4 : ai_hv t102 304 i = some (.inl 4294967287) := (e102 304 i (by first | decide | omega)).trans kz
    refine gx_incS (i := 5) (a := h) (x := 1) rfl (fun _ => rfl) l1_5 (by first | decide | omega) rfl (fun l5 hl5 ml5 => ?_)
    have l5_0 : en_ld l5 0 = some (gx_r 302) := ml5 0 _ l1_0 rfl
    have l5_1 : en_ld l5 1 = some (.inl mo) := ml5 1 _ l1_1 rfl
    have l5_2 : en_ld l5 2 = some (.inl me) := ml5 2 _ l1_2 rfl
    have l5_3 : en_ld l5 3 = some (.inl ti) := ml5 3 _ l1_3 rfl
    have l5_4 : en_ld l5 4 = some (.inl ou) := ml5 4 _ l1_4 rfl
    have l5_6 : en_ld l5 6 = some (.inl i) := ml5 6 _ l1_6 rfl
    have l5_7 : en_ld l5 7 = some (.inl 4294967287) := ml5 7 _ hl1 rfl
    refine gx_incS (i := 6) (a := i) (x := 1) rfl (fun _ => rfl) l5_6 (by first | decide | omega) rfl (fun l6 hl6 ml6 => ?_)
    have l6_0 : en_ld l6 0 = some (gx_r 302) := ml6 0 _ l5_0 rfl
    have l6_1 : en_ld l6 1 = some (.inl mo) := ml6 1 _ l5_1 rfl
    have l6_2 : en_ld l6 2 = some (.inl me) := ml6 2 _ l5_2 rfl
    have l6_3 : en_ld l6 3 = some (.inl ti) := ml6 3 _ l5_3 rfl
    have l6_4 : en_ld l6 4 = some (.inl ou) := ml6 4 _ l5_4 rfl
    have l6_7 : en_ld l6 7 = some (.inl 4294967287) := ml6 7 _ l5_7 rfl
    have l6_5 : en_ld l6 5 = some (.inl (h + 1)) := ml6 5 _ hl5 rfl
    refine ex_go (S := (6, l6, [], t102, n, 0)) rfl (fun _ => rfl) rfl ?_
    exact hQ _ t102 g102 (fun c j h9 => e102 c j (by first | decide | omega)) k102 l6_0 l6_1 l6_2 l6_3 l6_4 l6_5 hl6
  · refine gx_ld (i := 6) (d := 0) (v := .inl i) rfl (fun _ => rfl) h6 rfl rfl ?_
    refine gx_ld (i := 0) (d := 2) (v := gx_r 302) rfl (fun _ => rfl) h0 rfl rfl ?_
    refine gxo_get (a := 302) rfl g0 rfl rfl ks rfl ?_
    refine gx_2f (c := .ge) rfl (by first | decide | omega) (by first | decide | omega) (show ¬ (s ≤ i) from by omega) rfl ?_
    refine gx_ld (i := 0) (d := 2) (v := gx_r 302) rfl (fun _ => rfl) h0 rfl rfl ?_
    refine gxo_ref (a := 302) (c := 304) rfl g0 rfl rfl rfl rfl rfl ?_
    refine gx_ld (i := 6) (d := 0) (v := .inl i) rfl (fun _ => rfl) h6 rfl rfl ?_
    refine gx_ag (v := .inl 4294967285) (cb := fun c => Nat.beq c 0) rfl (fun _ => rfl) g0 rfl rfl kz (by first | decide | omega) rfl ?_
    refine gx_sto (i := 7) (d := 0) rfl (fun _ => rfl) rfl rfl (fun l1 hl1 ml1 => ?_)
    have l1_0 : en_ld l1 0 = some (gx_r 302) := ml1 0 _ h0 rfl
    have l1_1 : en_ld l1 1 = some (.inl mo) := ml1 1 _ hm rfl
    have l1_2 : en_ld l1 2 = some (.inl me) := ml1 2 _ ha rfl
    have l1_3 : en_ld l1 3 = some (.inl ti) := ml1 3 _ hb rfl
    have l1_4 : en_ld l1 4 = some (.inl ou) := ml1 4 _ ho4 rfl
    have l1_5 : en_ld l1 5 = some (.inl h) := ml1 5 _ h5 rfl
    have l1_6 : en_ld l1 6 = some (.inl i) := ml1 6 _ h6 rfl
    refine gx_ld (i := 7) (d := 0) (v := .inl 4294967285) rfl (fun _ => rfl) hl1 rfl rfl ?_
    refine ex_go (S := (27, l1, [.inl 4294967295, .inl 4294967285], t0, n, 0)) rfl (fun _ => rfl) rfl ?_
    refine ex_go (S := (64, l1, [], t0, n, 0)) rfl (fun _ => rfl) rfl ?_
    refine gx_ld (i := 7) (d := 0) (v := .inl 4294967285) rfl (fun _ => rfl) hl1 rfl rfl ?_
    refine ex_go (S := (69, l1, [], t0, n, 0)) rfl (fun _ => rfl) rfl ?_
    refine gx_ld (i := 7) (d := 0) (v := .inl 4294967285) rfl (fun _ => rfl) hl1 rfl rfl ?_
    refine ex_go (S := (73, l1, [.inl 4294967288, .inl 4294967285], t0, n, 0)) rfl (fun _ => rfl) rfl ?_
    refine ex_go (S := (118, l1, [], t0, n, 0)) rfl (fun _ => rfl) rfl ?_
    refine gx_ld (i := 5) (d := 0) (v := .inl h) rfl (fun _ => rfl) l1_5 rfl rfl ?_
    refine gx_ld (i := 0) (d := 2) (v := gx_r 302) rfl (fun _ => rfl) l1_0 rfl rfl ?_
    refine gxo_ref (a := 302) (c := 303) rfl g0 rfl rfl rfl rfl rfl ?_
    refine gx_alen (a := 303) (m := 25) rfl g0 rfl rfl rfl ?_
    refine gx_2f (c := .ge) rfl (by first | decide | omega) (by first | decide | omega) (show ¬ (25 ≤ h) from by omega) rfl ?_
    refine gx_ld (i := 0) (d := 2) (v := gx_r 302) rfl (fun _ => rfl) l1_0 rfl rfl ?_
    refine gxo_ref (a := 302) (c := 303) rfl g0 rfl rfl rfl rfl rfl ?_
    refine gx_ld (i := 5) (d := 0) (v := .inl h) rfl (fun _ => rfl) l1_5 rfl rfl ?_
    refine gx_ld (i := 7) (d := 0) (v := .inl 4294967285) rfl (fun _ => rfl) hl1 rfl rfl ?_
    refine gx_ld (i := 2) (d := 0) (v := .inl me) rfl (fun _ => rfl) l1_2 rfl rfl ?_
    refine gx_ld (i := 3) (d := 0) (v := .inl ti) rfl (fun _ => rfl) l1_3 rfl rfl ?_
    refine gx_ld (i := 4) (d := 0) (v := .inl ou) rfl (fun _ => rfl) l1_4 rfl rfl ?_
    have hvp : vpt me ti ou 4294967285 < 4294967296 := vpt_lt hme hti hou (by first | decide | omega)
    refine ex_stat rfl rfl rfl rfl rfl (pc_part d n (t0 := t0) (z := 4294967285) (me := me) (ti := ti) (ou := ou) (by first | decide | omega)) (Nat.le_refl _) rfl ?_
    show en_ex _ _ _ _ (143, l1, [.inl (vpt me ti ou 4294967285), .inl h, gx_r 303], t0, n, 0) _
    refine gx_ap rfl (fun _ => rfl) g0 rfl rfl rfl (show h < 25 from by omega) (gx_run1 (show h < 25 from by omega)) (gx_full (by first | decide | omega)) rfl (fun t102 g102 k102 e102 => ?_)
    have k3 : ai_hv t102 302 2 = some (.inl s) := (e102 302 2 (by first | decide | omega)).trans ks
    have k4 : ai_hv t102 304 i = some (.inl 4294967285) := (e102 304 i (by first | decide | omega)).trans kz
    refine gx_incS (i := 5) (a := h) (x := 1) rfl (fun _ => rfl) l1_5 (by first | decide | omega) rfl (fun l5 hl5 ml5 => ?_)
    have l5_0 : en_ld l5 0 = some (gx_r 302) := ml5 0 _ l1_0 rfl
    have l5_1 : en_ld l5 1 = some (.inl mo) := ml5 1 _ l1_1 rfl
    have l5_2 : en_ld l5 2 = some (.inl me) := ml5 2 _ l1_2 rfl
    have l5_3 : en_ld l5 3 = some (.inl ti) := ml5 3 _ l1_3 rfl
    have l5_4 : en_ld l5 4 = some (.inl ou) := ml5 4 _ l1_4 rfl
    have l5_6 : en_ld l5 6 = some (.inl i) := ml5 6 _ l1_6 rfl
    have l5_7 : en_ld l5 7 = some (.inl 4294967285) := ml5 7 _ hl1 rfl
    refine gx_incS (i := 6) (a := i) (x := 1) rfl (fun _ => rfl) l5_6 (by first | decide | omega) rfl (fun l6 hl6 ml6 => ?_)
    have l6_0 : en_ld l6 0 = some (gx_r 302) := ml6 0 _ l5_0 rfl
    have l6_1 : en_ld l6 1 = some (.inl mo) := ml6 1 _ l5_1 rfl
    have l6_2 : en_ld l6 2 = some (.inl me) := ml6 2 _ l5_2 rfl
    have l6_3 : en_ld l6 3 = some (.inl ti) := ml6 3 _ l5_3 rfl
    have l6_4 : en_ld l6 4 = some (.inl ou) := ml6 4 _ l5_4 rfl
    have l6_7 : en_ld l6 7 = some (.inl 4294967285) := ml6 7 _ l5_7 rfl
    have l6_5 : en_ld l6 5 = some (.inl (h + 1)) := ml6 5 _ hl5 rfl
    refine ex_go (S := (6, l6, [], t102, n, 0)) rfl (fun _ => rfl) rfl ?_
    exact hQ _ t102 g102 (fun c j h9 => e102 c j (by first | decide | omega)) k102 l6_0 l6_1 l6_2 l6_3 l6_4 l6_5 hl6
theorem pv302_not (d n : Nat) {t0 : en_H} {cl : en_L} {mo me ti ou h i s x : Nat} {Q : en_O → Prop} (g0 : ai_HG ah_G t0) (h0 : en_ld cl 0 = some (gx_r 302)) (hm : en_ld cl 1 = some (.inl mo)) (ha : en_ld cl 2 = some (.inl me)) (hb : en_ld cl 3 = some (.inl ti)) (ho4 : en_ld cl 4 = some (.inl ou)) (h5 : en_ld cl 5 = some (.inl h)) (h6 : en_ld cl 6 = some (.inl i)) (ks : ai_hv t0 302 2 = some (.inl s)) (hs : s ≤ 1000) (hi : i < s) (hh : h ≤ 25) (hme : me < 4294967296) (hti : ti < 4294967296) (hou : ou < 4294967296) (kz : ai_hv t0 304 i = some (.inl 4294967295)) (h1 : 1 ≤ h) (kx : ai_hv t0 303 (h - 1) = some (.inl x)) (hx : x < 4294967296) (hQ : ∀ cl' t', ai_HG ah_G t' → (∀ c j, ¬ (c = 303 ∧ j = h - 1) → ai_hv t' c j = ai_hv t0 c j) → ai_hv t' 303 (h - 1) = some (.inl (vnot x)) → en_ld cl' 0 = some (gx_r 302) → en_ld cl' 1 = some (.inl mo) → en_ld cl' 2 = some (.inl me) → en_ld cl' 3 = some (.inl ti) → en_ld cl' 4 = some (.inl ou) → en_ld cl' 5 = some (.inl (h)) → en_ld cl' 6 = some (.inl (i + 1)) → en_ex none (en_u (d + 1)) (en_code 210) (fun _ => false) (6, cl', [], t', n, 0) Q) : en_ex none (en_u (d + 1)) (en_code 210) (fun _ => false) (6, cl, [], t0, n, 0) Q := by
  refine gx_ld (i := 6) (d := 0) (v := .inl i) rfl (fun _ => rfl) h6 rfl rfl ?_
  refine gx_ld (i := 0) (d := 2) (v := gx_r 302) rfl (fun _ => rfl) h0 rfl rfl ?_
  refine gxo_get (a := 302) rfl g0 rfl rfl ks rfl ?_
  refine gx_2f (c := .ge) rfl (by first | decide | omega) (by first | decide | omega) (show ¬ (s ≤ i) from by omega) rfl ?_
  refine gx_ld (i := 0) (d := 2) (v := gx_r 302) rfl (fun _ => rfl) h0 rfl rfl ?_
  refine gxo_ref (a := 302) (c := 304) rfl g0 rfl rfl rfl rfl rfl ?_
  refine gx_ld (i := 6) (d := 0) (v := .inl i) rfl (fun _ => rfl) h6 rfl rfl ?_
  refine gx_ag (v := .inl 4294967295) (cb := fun c => Nat.beq c 0) rfl (fun _ => rfl) g0 rfl rfl kz (by first | decide | omega) rfl ?_
  refine gx_sto (i := 7) (d := 0) rfl (fun _ => rfl) rfl rfl (fun l1 hl1 ml1 => ?_)
  have l1_0 : en_ld l1 0 = some (gx_r 302) := ml1 0 _ h0 rfl
  have l1_1 : en_ld l1 1 = some (.inl mo) := ml1 1 _ hm rfl
  have l1_2 : en_ld l1 2 = some (.inl me) := ml1 2 _ ha rfl
  have l1_3 : en_ld l1 3 = some (.inl ti) := ml1 3 _ hb rfl
  have l1_4 : en_ld l1 4 = some (.inl ou) := ml1 4 _ ho4 rfl
  have l1_5 : en_ld l1 5 = some (.inl h) := ml1 5 _ h5 rfl
  have l1_6 : en_ld l1 6 = some (.inl i) := ml1 6 _ h6 rfl
  refine gx_ld (i := 7) (d := 0) (v := .inl 4294967295) rfl (fun _ => rfl) hl1 rfl rfl ?_
  refine ex_go (S := (27, l1, [.inl 4294967295, .inl 4294967295], t0, n, 0)) rfl (fun _ => rfl) rfl ?_
  refine ex_go (S := (30, l1, [], t0, n, 0)) rfl (fun _ => rfl) rfl ?_
  refine gx_ld (i := 5) (d := 0) (v := .inl h) rfl (fun _ => rfl) l1_5 rfl rfl ?_
  refine gx_1f (c := .le) rfl (by first | decide | omega) (show ¬ (h ≤ 0) from by omega) rfl ?_
  refine gx_ld (i := 0) (d := 2) (v := gx_r 302) rfl (fun _ => rfl) l1_0 rfl rfl ?_
  refine gxo_ref (a := 302) (c := 303) rfl g0 rfl rfl rfl rfl rfl ?_
  refine gx_ld (i := 5) (d := 0) (v := .inl h) rfl (fun _ => rfl) l1_5 rfl rfl ?_
  refine ex_go (S := (42, l1, [.inl 1, .inl h, gx_r 303], t0, n, 0)) rfl (fun _ => rfl) rfl ?_
  refine gx_isub rfl (by first | decide | omega) (by first | decide | omega) rfl ?_
  refine gx_ld (i := 0) (d := 2) (v := gx_r 302) rfl (fun _ => rfl) l1_0 rfl rfl ?_
  refine gxo_ref (a := 302) (c := 303) rfl g0 rfl rfl rfl rfl rfl ?_
  refine gx_ld (i := 5) (d := 0) (v := .inl h) rfl (fun _ => rfl) l1_5 rfl rfl ?_
  refine ex_go (S := (50, l1, [.inl 1, .inl h, gx_r 303, .inl (h - 1), gx_r 303], t0, n, 0)) rfl (fun _ => rfl) rfl ?_
  refine gx_isub rfl (by first | decide | omega) (by first | decide | omega) rfl ?_
  refine gx_ag (v := .inl x) (cb := fun c => Nat.beq c 0) rfl (fun _ => rfl) g0 rfl rfl kx (by first | decide | omega) rfl ?_
  refine gx_1r (c := .ne) rfl (by first | decide | omega) rfl rfl (fun hr2 => ?_) (fun hr2 => ?_)
  · show en_ex _ _ _ _ (59, l1, [.inl (h - 1), gx_r 303], t0, n, 0) _
    refine ex_go (S := (60, l1, [.inl 0, .inl (h - 1), gx_r 303], t0, n, 0)) rfl (fun _ => rfl) rfl ?_
    refine gx_ap rfl (fun _ => rfl) g0 rfl rfl rfl (show h - 1 < 25 from by omega) (gx_run1 (show h - 1 < 25 from by omega)) (gx_full (by first | decide | omega)) rfl (fun t103 g103 k103 e103 => ?_)
    have k4 : ai_hv t103 302 2 = some (.inl s) := (e103 302 2 (by first | decide | omega)).trans ks
    have k5 : ai_hv t103 304 i = some (.inl 4294967295) := (e103 304 i (by first | decide | omega)).trans kz
    refine ex_go (S := (147, l1, [], t103, n, 0)) rfl (fun _ => rfl) rfl ?_
    refine gx_incS (i := 6) (a := i) (x := 1) rfl (fun _ => rfl) l1_6 (by first | decide | omega) rfl (fun l6 hl6 ml6 => ?_)
    have l6_0 : en_ld l6 0 = some (gx_r 302) := ml6 0 _ l1_0 rfl
    have l6_1 : en_ld l6 1 = some (.inl mo) := ml6 1 _ l1_1 rfl
    have l6_2 : en_ld l6 2 = some (.inl me) := ml6 2 _ l1_2 rfl
    have l6_3 : en_ld l6 3 = some (.inl ti) := ml6 3 _ l1_3 rfl
    have l6_4 : en_ld l6 4 = some (.inl ou) := ml6 4 _ l1_4 rfl
    have l6_5 : en_ld l6 5 = some (.inl h) := ml6 5 _ l1_5 rfl
    have l6_7 : en_ld l6 7 = some (.inl 4294967295) := ml6 7 _ hl1 rfl
    refine ex_go (S := (6, l6, [], t103, n, 0)) rfl (fun _ => rfl) rfl ?_
    have hv9 : vnot x = 0 := cif_t hr2
    exact hQ _ t103 g103 (fun c j h9 => e103 c j (by first | decide | omega)) (by rw [hv9]; exact k103) l6_0 l6_1 l6_2 l6_3 l6_4 l6_5 hl6
  · show en_ex _ _ _ _ (55, l1, [.inl (h - 1), gx_r 303], t0, n, 0) _
    refine ex_go (S := (56, l1, [.inl 1, .inl (h - 1), gx_r 303], t0, n, 0)) rfl (fun _ => rfl) rfl ?_
    refine ex_go (S := (60, l1, [.inl 1, .inl (h - 1), gx_r 303], t0, n, 0)) rfl (fun _ => rfl) rfl ?_
    refine gx_ap rfl (fun _ => rfl) g0 rfl rfl rfl (show h - 1 < 25 from by omega) (gx_run1 (show h - 1 < 25 from by omega)) (gx_full (by first | decide | omega)) rfl (fun t107 g107 k107 e107 => ?_)
    have k8 : ai_hv t107 302 2 = some (.inl s) := (e107 302 2 (by first | decide | omega)).trans ks
    have k9 : ai_hv t107 304 i = some (.inl 4294967295) := (e107 304 i (by first | decide | omega)).trans kz
    refine ex_go (S := (147, l1, [], t107, n, 0)) rfl (fun _ => rfl) rfl ?_
    refine gx_incS (i := 6) (a := i) (x := 1) rfl (fun _ => rfl) l1_6 (by first | decide | omega) rfl (fun l10 hl10 ml10 => ?_)
    have l10_0 : en_ld l10 0 = some (gx_r 302) := ml10 0 _ l1_0 rfl
    have l10_1 : en_ld l10 1 = some (.inl mo) := ml10 1 _ l1_1 rfl
    have l10_2 : en_ld l10 2 = some (.inl me) := ml10 2 _ l1_2 rfl
    have l10_3 : en_ld l10 3 = some (.inl ti) := ml10 3 _ l1_3 rfl
    have l10_4 : en_ld l10 4 = some (.inl ou) := ml10 4 _ l1_4 rfl
    have l10_5 : en_ld l10 5 = some (.inl h) := ml10 5 _ l1_5 rfl
    have l10_7 : en_ld l10 7 = some (.inl 4294967295) := ml10 7 _ hl1 rfl
    refine ex_go (S := (6, l10, [], t107, n, 0)) rfl (fun _ => rfl) rfl ?_
    have hv9 : vnot x = 1 := cif_f hr2
    exact hQ _ t107 g107 (fun c j h9 => e107 c j (by first | decide | omega)) (by rw [hv9]; exact k107) l10_0 l10_1 l10_2 l10_3 l10_4 l10_5 hl10
theorem pv302_bin (d n : Nat) {t0 : en_H} {cl : en_L} {mo me ti ou h i s x y z : Nat} {Q : en_O → Prop} (g0 : ai_HG ah_G t0) (h0 : en_ld cl 0 = some (gx_r 302)) (hm : en_ld cl 1 = some (.inl mo)) (ha : en_ld cl 2 = some (.inl me)) (hb : en_ld cl 3 = some (.inl ti)) (ho4 : en_ld cl 4 = some (.inl ou)) (h5 : en_ld cl 5 = some (.inl h)) (h6 : en_ld cl 6 = some (.inl i)) (ks : ai_hv t0 302 2 = some (.inl s)) (hs : s ≤ 1000) (hi : i < s) (hh : h ≤ 25) (hme : me < 4294967296) (hti : ti < 4294967296) (hou : ou < 4294967296) (hz : z = 4294967290 ∨ z = 4294967289 ∨ z = 4294967288 ∨ z = 4294967292 ∨ z = 4294967291 ∨ z = 4294967294 ∨ z = 4294967293) (kz : ai_hv t0 304 i = some (.inl z)) (h1 : 2 ≤ h) (ky : ai_hv t0 303 (h - 1) = some (.inl y)) (hy : y < 4294967296) (kx : ai_hv t0 303 (h - 1 - 1) = some (.inl x)) (hx : x < 4294967296) (hQ : ∀ cl' t', ai_HG ah_G t' → (∀ c j, ¬ (c = 303 ∧ j = h - 1 - 1) → ai_hv t' c j = ai_hv t0 c j) → ai_hv t' 303 (h - 1 - 1) = some (.inl (vb (opm z) x y)) → en_ld cl' 0 = some (gx_r 302) → en_ld cl' 1 = some (.inl mo) → en_ld cl' 2 = some (.inl me) → en_ld cl' 3 = some (.inl ti) → en_ld cl' 4 = some (.inl ou) → en_ld cl' 5 = some (.inl (h - 1)) → en_ld cl' 6 = some (.inl (i + 1)) → en_ex none (en_u (d + 1)) (en_code 210) (fun _ => false) (6, cl', [], t', n, 0) Q) : en_ex none (en_u (d + 1)) (en_code 210) (fun _ => false) (6, cl, [], t0, n, 0) Q := by
  rcases hz with rfl | rfl | rfl | rfl | rfl | rfl | rfl
  · refine gx_ld (i := 6) (d := 0) (v := .inl i) rfl (fun _ => rfl) h6 rfl rfl ?_
    refine gx_ld (i := 0) (d := 2) (v := gx_r 302) rfl (fun _ => rfl) h0 rfl rfl ?_
    refine gxo_get (a := 302) rfl g0 rfl rfl ks rfl ?_
    refine gx_2f (c := .ge) rfl (by first | decide | omega) (by first | decide | omega) (show ¬ (s ≤ i) from by omega) rfl ?_
    refine gx_ld (i := 0) (d := 2) (v := gx_r 302) rfl (fun _ => rfl) h0 rfl rfl ?_
    refine gxo_ref (a := 302) (c := 304) rfl g0 rfl rfl rfl rfl rfl ?_
    refine gx_ld (i := 6) (d := 0) (v := .inl i) rfl (fun _ => rfl) h6 rfl rfl ?_
    refine gx_ag (v := .inl 4294967290) (cb := fun c => Nat.beq c 0) rfl (fun _ => rfl) g0 rfl rfl kz (by first | decide | omega) rfl ?_
    refine gx_sto (i := 7) (d := 0) rfl (fun _ => rfl) rfl rfl (fun l1 hl1 ml1 => ?_)
    have l1_0 : en_ld l1 0 = some (gx_r 302) := ml1 0 _ h0 rfl
    have l1_1 : en_ld l1 1 = some (.inl mo) := ml1 1 _ hm rfl
    have l1_2 : en_ld l1 2 = some (.inl me) := ml1 2 _ ha rfl
    have l1_3 : en_ld l1 3 = some (.inl ti) := ml1 3 _ hb rfl
    have l1_4 : en_ld l1 4 = some (.inl ou) := ml1 4 _ ho4 rfl
    have l1_5 : en_ld l1 5 = some (.inl h) := ml1 5 _ h5 rfl
    have l1_6 : en_ld l1 6 = some (.inl i) := ml1 6 _ h6 rfl
    refine gx_ld (i := 7) (d := 0) (v := .inl 4294967290) rfl (fun _ => rfl) hl1 rfl rfl ?_
    refine ex_go (S := (27, l1, [.inl 4294967295, .inl 4294967290], t0, n, 0)) rfl (fun _ => rfl) rfl ?_
    refine ex_go (S := (64, l1, [], t0, n, 0)) rfl (fun _ => rfl) rfl ?_
    refine gx_ld (i := 7) (d := 0) (v := .inl 4294967290) rfl (fun _ => rfl) hl1 rfl rfl ?_
    refine ex_go (S := (69, l1, [], t0, n, 0)) rfl (fun _ => rfl) rfl ?_
    refine gx_ld (i := 7) (d := 0) (v := .inl 4294967290) rfl (fun _ => rfl) hl1 rfl rfl ?_
    refine ex_go (S := (73, l1, [.inl 4294967288, .inl 4294967290], t0, n, 0)) rfl (fun _ => rfl) rfl ?_
    refine ex_go (S := (76, l1, [], t0, n, 0)) rfl (fun _ => rfl) rfl ?_
    refine gx_ld (i := 5) (d := 0) (v := .inl h) rfl (fun _ => rfl) l1_5 rfl rfl ?_
    refine ex_go (S := (79, l1, [.inl 1, .inl h], t0, n, 0)) rfl (fun _ => rfl) rfl ?_
    refine gx_2f (c := .le) rfl (by first | decide | omega) (by first | decide | omega) (show ¬ (h ≤ 1) from by omega) rfl ?_
    refine gx_decS (i := 5) (a := h) rfl (fun _ => rfl) l1_5 (by first | decide | omega) (by first | decide | omega) rfl (fun l2 hl2 ml2 => ?_)
    have l2_0 : en_ld l2 0 = some (gx_r 302) := ml2 0 _ l1_0 rfl
    have l2_1 : en_ld l2 1 = some (.inl mo) := ml2 1 _ l1_1 rfl
    have l2_2 : en_ld l2 2 = some (.inl me) := ml2 2 _ l1_2 rfl
    have l2_3 : en_ld l2 3 = some (.inl ti) := ml2 3 _ l1_3 rfl
    have l2_4 : en_ld l2 4 = some (.inl ou) := ml2 4 _ l1_4 rfl
    have l2_6 : en_ld l2 6 = some (.inl i) := ml2 6 _ l1_6 rfl
    have l2_7 : en_ld l2 7 = some (.inl 4294967290) := ml2 7 _ hl1 rfl
    refine gx_ld (i := 0) (d := 2) (v := gx_r 302) rfl (fun _ => rfl) l2_0 rfl rfl ?_
    refine gxo_ref (a := 302) (c := 303) rfl g0 rfl rfl rfl rfl rfl ?_
    refine gx_ld (i := 5) (d := 0) (v := .inl (h - 1)) rfl (fun _ => rfl) hl2 rfl rfl ?_
    refine ex_go (S := (92, l2, [.inl 1, .inl (h - 1), gx_r 303], t0, n, 0)) rfl (fun _ => rfl) rfl ?_
    refine gx_isub rfl (by first | decide | omega) (by first | decide | omega) rfl ?_
    refine gx_ld (i := 7) (d := 0) (v := .inl 4294967290) rfl (fun _ => rfl) l2_7 rfl rfl ?_
    refine gx_ld (i := 0) (d := 2) (v := gx_r 302) rfl (fun _ => rfl) l2_0 rfl rfl ?_
    refine gxo_ref (a := 302) (c := 303) rfl g0 rfl rfl rfl rfl rfl ?_
    refine gx_ld (i := 5) (d := 0) (v := .inl (h - 1)) rfl (fun _ => rfl) hl2 rfl rfl ?_
    refine ex_go (S := (102, l2, [.inl 1, .inl (h - 1), gx_r 303, .inl 4294967290, .inl ((h - 1) - 1), gx_r 303], t0, n, 0)) rfl (fun _ => rfl) rfl ?_
    refine gx_isub rfl (by first | decide | omega) (by first | decide | omega) rfl ?_
    refine gx_ag (v := .inl x) (cb := fun c => Nat.beq c 0) rfl (fun _ => rfl) g0 rfl rfl kx (by first | decide | omega) rfl ?_
    refine gx_ld (i := 0) (d := 2) (v := gx_r 302) rfl (fun _ => rfl) l2_0 rfl rfl ?_
    refine gxo_ref (a := 302) (c := 303) rfl g0 rfl rfl rfl rfl rfl ?_
    refine gx_ld (i := 5) (d := 0) (v := .inl (h - 1)) rfl (fun _ => rfl) hl2 rfl rfl ?_
    refine gx_ag (v := .inl y) (cb := fun c => Nat.beq c 0) rfl (fun _ => rfl) g0 rfl rfl ky (by first | decide | omega) rfl ?_
    have hvb := vb_lt (o := opm 4294967290) (a := x) (b := y)
    refine ex_stat rfl rfl rfl rfl rfl (pc_joined d n (t0 := t0) (z := 4294967290) (x := x) (y := y) (by first | decide | omega) (by first | decide | omega) (by first | decide | omega)) (Nat.le_refl _) rfl ?_
    show en_ex _ _ _ _ (114, l2, [.inl (vb (opm 4294967290) x y), .inl ((h - 1) - 1), gx_r 303], t0, n, 0) _
    refine gx_ap rfl (fun _ => rfl) g0 rfl rfl rfl (show (h - 1) - 1 < 25 from by omega) (gx_run1 (show (h - 1) - 1 < 25 from by omega)) (gx_full (by first | decide | omega)) rfl (fun t103 g103 k103 e103 => ?_)
    have k4 : ai_hv t103 303 (h - 1) = some (.inl y) := (e103 303 (h - 1) (by first | decide | omega)).trans ky
    have k5 : ai_hv t103 302 2 = some (.inl s) := (e103 302 2 (by first | decide | omega)).trans ks
    have k6 : ai_hv t103 304 i = some (.inl 4294967290) := (e103 304 i (by first | decide | omega)).trans kz
    refine ex_go (S := (147, l2, [], t103, n, 0)) rfl (fun _ => rfl) rfl ?_
    refine gx_incS (i := 6) (a := i) (x := 1) rfl (fun _ => rfl) l2_6 (by first | decide | omega) rfl (fun l7 hl7 ml7 => ?_)
    have l7_0 : en_ld l7 0 = some (gx_r 302) := ml7 0 _ l2_0 rfl
    have l7_1 : en_ld l7 1 = some (.inl mo) := ml7 1 _ l2_1 rfl
    have l7_2 : en_ld l7 2 = some (.inl me) := ml7 2 _ l2_2 rfl
    have l7_3 : en_ld l7 3 = some (.inl ti) := ml7 3 _ l2_3 rfl
    have l7_4 : en_ld l7 4 = some (.inl ou) := ml7 4 _ l2_4 rfl
    have l7_7 : en_ld l7 7 = some (.inl 4294967290) := ml7 7 _ l2_7 rfl
    have l7_5 : en_ld l7 5 = some (.inl (h - 1)) := ml7 5 _ hl2 rfl
    refine ex_go (S := (6, l7, [], t103, n, 0)) rfl (fun _ => rfl) rfl ?_
    exact hQ _ t103 g103 (fun c j h9 => e103 c j (by first | decide | omega)) k103 l7_0 l7_1 l7_2 l7_3 l7_4 l7_5 hl7
  · refine gx_ld (i := 6) (d := 0) (v := .inl i) rfl (fun _ => rfl) h6 rfl rfl ?_
    refine gx_ld (i := 0) (d := 2) (v := gx_r 302) rfl (fun _ => rfl) h0 rfl rfl ?_
    refine gxo_get (a := 302) rfl g0 rfl rfl ks rfl ?_
    refine gx_2f (c := .ge) rfl (by first | decide | omega) (by first | decide | omega) (show ¬ (s ≤ i) from by omega) rfl ?_
    refine gx_ld (i := 0) (d := 2) (v := gx_r 302) rfl (fun _ => rfl) h0 rfl rfl ?_
    refine gxo_ref (a := 302) (c := 304) rfl g0 rfl rfl rfl rfl rfl ?_
    refine gx_ld (i := 6) (d := 0) (v := .inl i) rfl (fun _ => rfl) h6 rfl rfl ?_
    refine gx_ag (v := .inl 4294967289) (cb := fun c => Nat.beq c 0) rfl (fun _ => rfl) g0 rfl rfl kz (by first | decide | omega) rfl ?_
    refine gx_sto (i := 7) (d := 0) rfl (fun _ => rfl) rfl rfl (fun l1 hl1 ml1 => ?_)
    have l1_0 : en_ld l1 0 = some (gx_r 302) := ml1 0 _ h0 rfl
    have l1_1 : en_ld l1 1 = some (.inl mo) := ml1 1 _ hm rfl
    have l1_2 : en_ld l1 2 = some (.inl me) := ml1 2 _ ha rfl
    have l1_3 : en_ld l1 3 = some (.inl ti) := ml1 3 _ hb rfl
    have l1_4 : en_ld l1 4 = some (.inl ou) := ml1 4 _ ho4 rfl
    have l1_5 : en_ld l1 5 = some (.inl h) := ml1 5 _ h5 rfl
    have l1_6 : en_ld l1 6 = some (.inl i) := ml1 6 _ h6 rfl
    refine gx_ld (i := 7) (d := 0) (v := .inl 4294967289) rfl (fun _ => rfl) hl1 rfl rfl ?_
    refine ex_go (S := (27, l1, [.inl 4294967295, .inl 4294967289], t0, n, 0)) rfl (fun _ => rfl) rfl ?_
    refine ex_go (S := (64, l1, [], t0, n, 0)) rfl (fun _ => rfl) rfl ?_
    refine gx_ld (i := 7) (d := 0) (v := .inl 4294967289) rfl (fun _ => rfl) hl1 rfl rfl ?_
    refine ex_go (S := (69, l1, [], t0, n, 0)) rfl (fun _ => rfl) rfl ?_
    refine gx_ld (i := 7) (d := 0) (v := .inl 4294967289) rfl (fun _ => rfl) hl1 rfl rfl ?_
    refine ex_go (S := (73, l1, [.inl 4294967288, .inl 4294967289], t0, n, 0)) rfl (fun _ => rfl) rfl ?_
    refine ex_go (S := (76, l1, [], t0, n, 0)) rfl (fun _ => rfl) rfl ?_
    refine gx_ld (i := 5) (d := 0) (v := .inl h) rfl (fun _ => rfl) l1_5 rfl rfl ?_
    refine ex_go (S := (79, l1, [.inl 1, .inl h], t0, n, 0)) rfl (fun _ => rfl) rfl ?_
    refine gx_2f (c := .le) rfl (by first | decide | omega) (by first | decide | omega) (show ¬ (h ≤ 1) from by omega) rfl ?_
    refine gx_decS (i := 5) (a := h) rfl (fun _ => rfl) l1_5 (by first | decide | omega) (by first | decide | omega) rfl (fun l2 hl2 ml2 => ?_)
    have l2_0 : en_ld l2 0 = some (gx_r 302) := ml2 0 _ l1_0 rfl
    have l2_1 : en_ld l2 1 = some (.inl mo) := ml2 1 _ l1_1 rfl
    have l2_2 : en_ld l2 2 = some (.inl me) := ml2 2 _ l1_2 rfl
    have l2_3 : en_ld l2 3 = some (.inl ti) := ml2 3 _ l1_3 rfl
    have l2_4 : en_ld l2 4 = some (.inl ou) := ml2 4 _ l1_4 rfl
    have l2_6 : en_ld l2 6 = some (.inl i) := ml2 6 _ l1_6 rfl
    have l2_7 : en_ld l2 7 = some (.inl 4294967289) := ml2 7 _ hl1 rfl
    refine gx_ld (i := 0) (d := 2) (v := gx_r 302) rfl (fun _ => rfl) l2_0 rfl rfl ?_
    refine gxo_ref (a := 302) (c := 303) rfl g0 rfl rfl rfl rfl rfl ?_
    refine gx_ld (i := 5) (d := 0) (v := .inl (h - 1)) rfl (fun _ => rfl) hl2 rfl rfl ?_
    refine ex_go (S := (92, l2, [.inl 1, .inl (h - 1), gx_r 303], t0, n, 0)) rfl (fun _ => rfl) rfl ?_
    refine gx_isub rfl (by first | decide | omega) (by first | decide | omega) rfl ?_
    refine gx_ld (i := 7) (d := 0) (v := .inl 4294967289) rfl (fun _ => rfl) l2_7 rfl rfl ?_
    refine gx_ld (i := 0) (d := 2) (v := gx_r 302) rfl (fun _ => rfl) l2_0 rfl rfl ?_
    refine gxo_ref (a := 302) (c := 303) rfl g0 rfl rfl rfl rfl rfl ?_
    refine gx_ld (i := 5) (d := 0) (v := .inl (h - 1)) rfl (fun _ => rfl) hl2 rfl rfl ?_
    refine ex_go (S := (102, l2, [.inl 1, .inl (h - 1), gx_r 303, .inl 4294967289, .inl ((h - 1) - 1), gx_r 303], t0, n, 0)) rfl (fun _ => rfl) rfl ?_
    refine gx_isub rfl (by first | decide | omega) (by first | decide | omega) rfl ?_
    refine gx_ag (v := .inl x) (cb := fun c => Nat.beq c 0) rfl (fun _ => rfl) g0 rfl rfl kx (by first | decide | omega) rfl ?_
    refine gx_ld (i := 0) (d := 2) (v := gx_r 302) rfl (fun _ => rfl) l2_0 rfl rfl ?_
    refine gxo_ref (a := 302) (c := 303) rfl g0 rfl rfl rfl rfl rfl ?_
    refine gx_ld (i := 5) (d := 0) (v := .inl (h - 1)) rfl (fun _ => rfl) hl2 rfl rfl ?_
    refine gx_ag (v := .inl y) (cb := fun c => Nat.beq c 0) rfl (fun _ => rfl) g0 rfl rfl ky (by first | decide | omega) rfl ?_
    have hvb := vb_lt (o := opm 4294967289) (a := x) (b := y)
    refine ex_stat rfl rfl rfl rfl rfl (pc_joined d n (t0 := t0) (z := 4294967289) (x := x) (y := y) (by first | decide | omega) (by first | decide | omega) (by first | decide | omega)) (Nat.le_refl _) rfl ?_
    show en_ex _ _ _ _ (114, l2, [.inl (vb (opm 4294967289) x y), .inl ((h - 1) - 1), gx_r 303], t0, n, 0) _
    refine gx_ap rfl (fun _ => rfl) g0 rfl rfl rfl (show (h - 1) - 1 < 25 from by omega) (gx_run1 (show (h - 1) - 1 < 25 from by omega)) (gx_full (by first | decide | omega)) rfl (fun t103 g103 k103 e103 => ?_)
    have k4 : ai_hv t103 303 (h - 1) = some (.inl y) := (e103 303 (h - 1) (by first | decide | omega)).trans ky
    have k5 : ai_hv t103 302 2 = some (.inl s) := (e103 302 2 (by first | decide | omega)).trans ks
    have k6 : ai_hv t103 304 i = some (.inl 4294967289) := (e103 304 i (by first | decide | omega)).trans kz
    refine ex_go (S := (147, l2, [], t103, n, 0)) rfl (fun _ => rfl) rfl ?_
    refine gx_incS (i := 6) (a := i) (x := 1) rfl (fun _ => rfl) l2_6 (by first | decide | omega) rfl (fun l7 hl7 ml7 => ?_)
    have l7_0 : en_ld l7 0 = some (gx_r 302) := ml7 0 _ l2_0 rfl
    have l7_1 : en_ld l7 1 = some (.inl mo) := ml7 1 _ l2_1 rfl
    have l7_2 : en_ld l7 2 = some (.inl me) := ml7 2 _ l2_2 rfl
    have l7_3 : en_ld l7 3 = some (.inl ti) := ml7 3 _ l2_3 rfl
    have l7_4 : en_ld l7 4 = some (.inl ou) := ml7 4 _ l2_4 rfl
    have l7_7 : en_ld l7 7 = some (.inl 4294967289) := ml7 7 _ l2_7 rfl
    have l7_5 : en_ld l7 5 = some (.inl (h - 1)) := ml7 5 _ hl2 rfl
    refine ex_go (S := (6, l7, [], t103, n, 0)) rfl (fun _ => rfl) rfl ?_
    exact hQ _ t103 g103 (fun c j h9 => e103 c j (by first | decide | omega)) k103 l7_0 l7_1 l7_2 l7_3 l7_4 l7_5 hl7
  · refine gx_ld (i := 6) (d := 0) (v := .inl i) rfl (fun _ => rfl) h6 rfl rfl ?_
    refine gx_ld (i := 0) (d := 2) (v := gx_r 302) rfl (fun _ => rfl) h0 rfl rfl ?_
    refine gxo_get (a := 302) rfl g0 rfl rfl ks rfl ?_
    refine gx_2f (c := .ge) rfl (by first | decide | omega) (by first | decide | omega) (show ¬ (s ≤ i) from by omega) rfl ?_
    refine gx_ld (i := 0) (d := 2) (v := gx_r 302) rfl (fun _ => rfl) h0 rfl rfl ?_
    refine gxo_ref (a := 302) (c := 304) rfl g0 rfl rfl rfl rfl rfl ?_
    refine gx_ld (i := 6) (d := 0) (v := .inl i) rfl (fun _ => rfl) h6 rfl rfl ?_
    refine gx_ag (v := .inl 4294967288) (cb := fun c => Nat.beq c 0) rfl (fun _ => rfl) g0 rfl rfl kz (by first | decide | omega) rfl ?_
    refine gx_sto (i := 7) (d := 0) rfl (fun _ => rfl) rfl rfl (fun l1 hl1 ml1 => ?_)
    have l1_0 : en_ld l1 0 = some (gx_r 302) := ml1 0 _ h0 rfl
    have l1_1 : en_ld l1 1 = some (.inl mo) := ml1 1 _ hm rfl
    have l1_2 : en_ld l1 2 = some (.inl me) := ml1 2 _ ha rfl
    have l1_3 : en_ld l1 3 = some (.inl ti) := ml1 3 _ hb rfl
    have l1_4 : en_ld l1 4 = some (.inl ou) := ml1 4 _ ho4 rfl
    have l1_5 : en_ld l1 5 = some (.inl h) := ml1 5 _ h5 rfl
    have l1_6 : en_ld l1 6 = some (.inl i) := ml1 6 _ h6 rfl
    refine gx_ld (i := 7) (d := 0) (v := .inl 4294967288) rfl (fun _ => rfl) hl1 rfl rfl ?_
    refine ex_go (S := (27, l1, [.inl 4294967295, .inl 4294967288], t0, n, 0)) rfl (fun _ => rfl) rfl ?_
    refine ex_go (S := (64, l1, [], t0, n, 0)) rfl (fun _ => rfl) rfl ?_
    refine gx_ld (i := 7) (d := 0) (v := .inl 4294967288) rfl (fun _ => rfl) hl1 rfl rfl ?_
    refine ex_go (S := (69, l1, [], t0, n, 0)) rfl (fun _ => rfl) rfl ?_
    refine gx_ld (i := 7) (d := 0) (v := .inl 4294967288) rfl (fun _ => rfl) hl1 rfl rfl ?_
    refine ex_go (S := (73, l1, [.inl 4294967288, .inl 4294967288], t0, n, 0)) rfl (fun _ => rfl) rfl ?_
    refine ex_go (S := (76, l1, [], t0, n, 0)) rfl (fun _ => rfl) rfl ?_
    refine gx_ld (i := 5) (d := 0) (v := .inl h) rfl (fun _ => rfl) l1_5 rfl rfl ?_
    refine ex_go (S := (79, l1, [.inl 1, .inl h], t0, n, 0)) rfl (fun _ => rfl) rfl ?_
    refine gx_2f (c := .le) rfl (by first | decide | omega) (by first | decide | omega) (show ¬ (h ≤ 1) from by omega) rfl ?_
    refine gx_decS (i := 5) (a := h) rfl (fun _ => rfl) l1_5 (by first | decide | omega) (by first | decide | omega) rfl (fun l2 hl2 ml2 => ?_)
    have l2_0 : en_ld l2 0 = some (gx_r 302) := ml2 0 _ l1_0 rfl
    have l2_1 : en_ld l2 1 = some (.inl mo) := ml2 1 _ l1_1 rfl
    have l2_2 : en_ld l2 2 = some (.inl me) := ml2 2 _ l1_2 rfl
    have l2_3 : en_ld l2 3 = some (.inl ti) := ml2 3 _ l1_3 rfl
    have l2_4 : en_ld l2 4 = some (.inl ou) := ml2 4 _ l1_4 rfl
    have l2_6 : en_ld l2 6 = some (.inl i) := ml2 6 _ l1_6 rfl
    have l2_7 : en_ld l2 7 = some (.inl 4294967288) := ml2 7 _ hl1 rfl
    refine gx_ld (i := 0) (d := 2) (v := gx_r 302) rfl (fun _ => rfl) l2_0 rfl rfl ?_
    refine gxo_ref (a := 302) (c := 303) rfl g0 rfl rfl rfl rfl rfl ?_
    refine gx_ld (i := 5) (d := 0) (v := .inl (h - 1)) rfl (fun _ => rfl) hl2 rfl rfl ?_
    refine ex_go (S := (92, l2, [.inl 1, .inl (h - 1), gx_r 303], t0, n, 0)) rfl (fun _ => rfl) rfl ?_
    refine gx_isub rfl (by first | decide | omega) (by first | decide | omega) rfl ?_
    refine gx_ld (i := 7) (d := 0) (v := .inl 4294967288) rfl (fun _ => rfl) l2_7 rfl rfl ?_
    refine gx_ld (i := 0) (d := 2) (v := gx_r 302) rfl (fun _ => rfl) l2_0 rfl rfl ?_
    refine gxo_ref (a := 302) (c := 303) rfl g0 rfl rfl rfl rfl rfl ?_
    refine gx_ld (i := 5) (d := 0) (v := .inl (h - 1)) rfl (fun _ => rfl) hl2 rfl rfl ?_
    refine ex_go (S := (102, l2, [.inl 1, .inl (h - 1), gx_r 303, .inl 4294967288, .inl ((h - 1) - 1), gx_r 303], t0, n, 0)) rfl (fun _ => rfl) rfl ?_
    refine gx_isub rfl (by first | decide | omega) (by first | decide | omega) rfl ?_
    refine gx_ag (v := .inl x) (cb := fun c => Nat.beq c 0) rfl (fun _ => rfl) g0 rfl rfl kx (by first | decide | omega) rfl ?_
    refine gx_ld (i := 0) (d := 2) (v := gx_r 302) rfl (fun _ => rfl) l2_0 rfl rfl ?_
    refine gxo_ref (a := 302) (c := 303) rfl g0 rfl rfl rfl rfl rfl ?_
    refine gx_ld (i := 5) (d := 0) (v := .inl (h - 1)) rfl (fun _ => rfl) hl2 rfl rfl ?_
    refine gx_ag (v := .inl y) (cb := fun c => Nat.beq c 0) rfl (fun _ => rfl) g0 rfl rfl ky (by first | decide | omega) rfl ?_
    have hvb := vb_lt (o := opm 4294967288) (a := x) (b := y)
    refine ex_stat rfl rfl rfl rfl rfl (pc_joined d n (t0 := t0) (z := 4294967288) (x := x) (y := y) (by first | decide | omega) (by first | decide | omega) (by first | decide | omega)) (Nat.le_refl _) rfl ?_
    show en_ex _ _ _ _ (114, l2, [.inl (vb (opm 4294967288) x y), .inl ((h - 1) - 1), gx_r 303], t0, n, 0) _
    refine gx_ap rfl (fun _ => rfl) g0 rfl rfl rfl (show (h - 1) - 1 < 25 from by omega) (gx_run1 (show (h - 1) - 1 < 25 from by omega)) (gx_full (by first | decide | omega)) rfl (fun t103 g103 k103 e103 => ?_)
    have k4 : ai_hv t103 303 (h - 1) = some (.inl y) := (e103 303 (h - 1) (by first | decide | omega)).trans ky
    have k5 : ai_hv t103 302 2 = some (.inl s) := (e103 302 2 (by first | decide | omega)).trans ks
    have k6 : ai_hv t103 304 i = some (.inl 4294967288) := (e103 304 i (by first | decide | omega)).trans kz
    refine ex_go (S := (147, l2, [], t103, n, 0)) rfl (fun _ => rfl) rfl ?_
    refine gx_incS (i := 6) (a := i) (x := 1) rfl (fun _ => rfl) l2_6 (by first | decide | omega) rfl (fun l7 hl7 ml7 => ?_)
    have l7_0 : en_ld l7 0 = some (gx_r 302) := ml7 0 _ l2_0 rfl
    have l7_1 : en_ld l7 1 = some (.inl mo) := ml7 1 _ l2_1 rfl
    have l7_2 : en_ld l7 2 = some (.inl me) := ml7 2 _ l2_2 rfl
    have l7_3 : en_ld l7 3 = some (.inl ti) := ml7 3 _ l2_3 rfl
    have l7_4 : en_ld l7 4 = some (.inl ou) := ml7 4 _ l2_4 rfl
    have l7_7 : en_ld l7 7 = some (.inl 4294967288) := ml7 7 _ l2_7 rfl
    have l7_5 : en_ld l7 5 = some (.inl (h - 1)) := ml7 5 _ hl2 rfl
    refine ex_go (S := (6, l7, [], t103, n, 0)) rfl (fun _ => rfl) rfl ?_
    exact hQ _ t103 g103 (fun c j h9 => e103 c j (by first | decide | omega)) k103 l7_0 l7_1 l7_2 l7_3 l7_4 l7_5 hl7
  · refine gx_ld (i := 6) (d := 0) (v := .inl i) rfl (fun _ => rfl) h6 rfl rfl ?_
    refine gx_ld (i := 0) (d := 2) (v := gx_r 302) rfl (fun _ => rfl) h0 rfl rfl ?_
    refine gxo_get (a := 302) rfl g0 rfl rfl ks rfl ?_
    refine gx_2f (c := .ge) rfl (by first | decide | omega) (by first | decide | omega) (show ¬ (s ≤ i) from by omega) rfl ?_
    refine gx_ld (i := 0) (d := 2) (v := gx_r 302) rfl (fun _ => rfl) h0 rfl rfl ?_
    refine gxo_ref (a := 302) (c := 304) rfl g0 rfl rfl rfl rfl rfl ?_
    refine gx_ld (i := 6) (d := 0) (v := .inl i) rfl (fun _ => rfl) h6 rfl rfl ?_
    refine gx_ag (v := .inl 4294967292) (cb := fun c => Nat.beq c 0) rfl (fun _ => rfl) g0 rfl rfl kz (by first | decide | omega) rfl ?_
    refine gx_sto (i := 7) (d := 0) rfl (fun _ => rfl) rfl rfl (fun l1 hl1 ml1 => ?_)
    have l1_0 : en_ld l1 0 = some (gx_r 302) := ml1 0 _ h0 rfl
    have l1_1 : en_ld l1 1 = some (.inl mo) := ml1 1 _ hm rfl
    have l1_2 : en_ld l1 2 = some (.inl me) := ml1 2 _ ha rfl
    have l1_3 : en_ld l1 3 = some (.inl ti) := ml1 3 _ hb rfl
    have l1_4 : en_ld l1 4 = some (.inl ou) := ml1 4 _ ho4 rfl
    have l1_5 : en_ld l1 5 = some (.inl h) := ml1 5 _ h5 rfl
    have l1_6 : en_ld l1 6 = some (.inl i) := ml1 6 _ h6 rfl
    refine gx_ld (i := 7) (d := 0) (v := .inl 4294967292) rfl (fun _ => rfl) hl1 rfl rfl ?_
    refine ex_go (S := (27, l1, [.inl 4294967295, .inl 4294967292], t0, n, 0)) rfl (fun _ => rfl) rfl ?_
    refine ex_go (S := (64, l1, [], t0, n, 0)) rfl (fun _ => rfl) rfl ?_
    refine gx_ld (i := 7) (d := 0) (v := .inl 4294967292) rfl (fun _ => rfl) hl1 rfl rfl ?_
    refine ex_go (S := (69, l1, [], t0, n, 0)) rfl (fun _ => rfl) rfl ?_
    refine gx_ld (i := 7) (d := 0) (v := .inl 4294967292) rfl (fun _ => rfl) hl1 rfl rfl ?_
    refine ex_go (S := (73, l1, [.inl 4294967288, .inl 4294967292], t0, n, 0)) rfl (fun _ => rfl) rfl ?_
    refine ex_go (S := (76, l1, [], t0, n, 0)) rfl (fun _ => rfl) rfl ?_
    refine gx_ld (i := 5) (d := 0) (v := .inl h) rfl (fun _ => rfl) l1_5 rfl rfl ?_
    refine ex_go (S := (79, l1, [.inl 1, .inl h], t0, n, 0)) rfl (fun _ => rfl) rfl ?_
    refine gx_2f (c := .le) rfl (by first | decide | omega) (by first | decide | omega) (show ¬ (h ≤ 1) from by omega) rfl ?_
    refine gx_decS (i := 5) (a := h) rfl (fun _ => rfl) l1_5 (by first | decide | omega) (by first | decide | omega) rfl (fun l2 hl2 ml2 => ?_)
    have l2_0 : en_ld l2 0 = some (gx_r 302) := ml2 0 _ l1_0 rfl
    have l2_1 : en_ld l2 1 = some (.inl mo) := ml2 1 _ l1_1 rfl
    have l2_2 : en_ld l2 2 = some (.inl me) := ml2 2 _ l1_2 rfl
    have l2_3 : en_ld l2 3 = some (.inl ti) := ml2 3 _ l1_3 rfl
    have l2_4 : en_ld l2 4 = some (.inl ou) := ml2 4 _ l1_4 rfl
    have l2_6 : en_ld l2 6 = some (.inl i) := ml2 6 _ l1_6 rfl
    have l2_7 : en_ld l2 7 = some (.inl 4294967292) := ml2 7 _ hl1 rfl
    refine gx_ld (i := 0) (d := 2) (v := gx_r 302) rfl (fun _ => rfl) l2_0 rfl rfl ?_
    refine gxo_ref (a := 302) (c := 303) rfl g0 rfl rfl rfl rfl rfl ?_
    refine gx_ld (i := 5) (d := 0) (v := .inl (h - 1)) rfl (fun _ => rfl) hl2 rfl rfl ?_
    refine ex_go (S := (92, l2, [.inl 1, .inl (h - 1), gx_r 303], t0, n, 0)) rfl (fun _ => rfl) rfl ?_
    refine gx_isub rfl (by first | decide | omega) (by first | decide | omega) rfl ?_
    refine gx_ld (i := 7) (d := 0) (v := .inl 4294967292) rfl (fun _ => rfl) l2_7 rfl rfl ?_
    refine gx_ld (i := 0) (d := 2) (v := gx_r 302) rfl (fun _ => rfl) l2_0 rfl rfl ?_
    refine gxo_ref (a := 302) (c := 303) rfl g0 rfl rfl rfl rfl rfl ?_
    refine gx_ld (i := 5) (d := 0) (v := .inl (h - 1)) rfl (fun _ => rfl) hl2 rfl rfl ?_
    refine ex_go (S := (102, l2, [.inl 1, .inl (h - 1), gx_r 303, .inl 4294967292, .inl ((h - 1) - 1), gx_r 303], t0, n, 0)) rfl (fun _ => rfl) rfl ?_
    refine gx_isub rfl (by first | decide | omega) (by first | decide | omega) rfl ?_
    refine gx_ag (v := .inl x) (cb := fun c => Nat.beq c 0) rfl (fun _ => rfl) g0 rfl rfl kx (by first | decide | omega) rfl ?_
    refine gx_ld (i := 0) (d := 2) (v := gx_r 302) rfl (fun _ => rfl) l2_0 rfl rfl ?_
    refine gxo_ref (a := 302) (c := 303) rfl g0 rfl rfl rfl rfl rfl ?_
    refine gx_ld (i := 5) (d := 0) (v := .inl (h - 1)) rfl (fun _ => rfl) hl2 rfl rfl ?_
    refine gx_ag (v := .inl y) (cb := fun c => Nat.beq c 0) rfl (fun _ => rfl) g0 rfl rfl ky (by first | decide | omega) rfl ?_
    have hvb := vb_lt (o := opm 4294967292) (a := x) (b := y)
    refine ex_stat rfl rfl rfl rfl rfl (pc_joined d n (t0 := t0) (z := 4294967292) (x := x) (y := y) (by first | decide | omega) (by first | decide | omega) (by first | decide | omega)) (Nat.le_refl _) rfl ?_
    show en_ex _ _ _ _ (114, l2, [.inl (vb (opm 4294967292) x y), .inl ((h - 1) - 1), gx_r 303], t0, n, 0) _
    refine gx_ap rfl (fun _ => rfl) g0 rfl rfl rfl (show (h - 1) - 1 < 25 from by omega) (gx_run1 (show (h - 1) - 1 < 25 from by omega)) (gx_full (by first | decide | omega)) rfl (fun t103 g103 k103 e103 => ?_)
    have k4 : ai_hv t103 303 (h - 1) = some (.inl y) := (e103 303 (h - 1) (by first | decide | omega)).trans ky
    have k5 : ai_hv t103 302 2 = some (.inl s) := (e103 302 2 (by first | decide | omega)).trans ks
    have k6 : ai_hv t103 304 i = some (.inl 4294967292) := (e103 304 i (by first | decide | omega)).trans kz
    refine ex_go (S := (147, l2, [], t103, n, 0)) rfl (fun _ => rfl) rfl ?_
    refine gx_incS (i := 6) (a := i) (x := 1) rfl (fun _ => rfl) l2_6 (by first | decide | omega) rfl (fun l7 hl7 ml7 => ?_)
    have l7_0 : en_ld l7 0 = some (gx_r 302) := ml7 0 _ l2_0 rfl
    have l7_1 : en_ld l7 1 = some (.inl mo) := ml7 1 _ l2_1 rfl
    have l7_2 : en_ld l7 2 = some (.inl me) := ml7 2 _ l2_2 rfl
    have l7_3 : en_ld l7 3 = some (.inl ti) := ml7 3 _ l2_3 rfl
    have l7_4 : en_ld l7 4 = some (.inl ou) := ml7 4 _ l2_4 rfl
    have l7_7 : en_ld l7 7 = some (.inl 4294967292) := ml7 7 _ l2_7 rfl
    have l7_5 : en_ld l7 5 = some (.inl (h - 1)) := ml7 5 _ hl2 rfl
    refine ex_go (S := (6, l7, [], t103, n, 0)) rfl (fun _ => rfl) rfl ?_
    exact hQ _ t103 g103 (fun c j h9 => e103 c j (by first | decide | omega)) k103 l7_0 l7_1 l7_2 l7_3 l7_4 l7_5 hl7
  · refine gx_ld (i := 6) (d := 0) (v := .inl i) rfl (fun _ => rfl) h6 rfl rfl ?_
    refine gx_ld (i := 0) (d := 2) (v := gx_r 302) rfl (fun _ => rfl) h0 rfl rfl ?_
    refine gxo_get (a := 302) rfl g0 rfl rfl ks rfl ?_
    refine gx_2f (c := .ge) rfl (by first | decide | omega) (by first | decide | omega) (show ¬ (s ≤ i) from by omega) rfl ?_
    refine gx_ld (i := 0) (d := 2) (v := gx_r 302) rfl (fun _ => rfl) h0 rfl rfl ?_
    refine gxo_ref (a := 302) (c := 304) rfl g0 rfl rfl rfl rfl rfl ?_
    refine gx_ld (i := 6) (d := 0) (v := .inl i) rfl (fun _ => rfl) h6 rfl rfl ?_
    refine gx_ag (v := .inl 4294967291) (cb := fun c => Nat.beq c 0) rfl (fun _ => rfl) g0 rfl rfl kz (by first | decide | omega) rfl ?_
    refine gx_sto (i := 7) (d := 0) rfl (fun _ => rfl) rfl rfl (fun l1 hl1 ml1 => ?_)
    have l1_0 : en_ld l1 0 = some (gx_r 302) := ml1 0 _ h0 rfl
    have l1_1 : en_ld l1 1 = some (.inl mo) := ml1 1 _ hm rfl
    have l1_2 : en_ld l1 2 = some (.inl me) := ml1 2 _ ha rfl
    have l1_3 : en_ld l1 3 = some (.inl ti) := ml1 3 _ hb rfl
    have l1_4 : en_ld l1 4 = some (.inl ou) := ml1 4 _ ho4 rfl
    have l1_5 : en_ld l1 5 = some (.inl h) := ml1 5 _ h5 rfl
    have l1_6 : en_ld l1 6 = some (.inl i) := ml1 6 _ h6 rfl
    refine gx_ld (i := 7) (d := 0) (v := .inl 4294967291) rfl (fun _ => rfl) hl1 rfl rfl ?_
    refine ex_go (S := (27, l1, [.inl 4294967295, .inl 4294967291], t0, n, 0)) rfl (fun _ => rfl) rfl ?_
    refine ex_go (S := (64, l1, [], t0, n, 0)) rfl (fun _ => rfl) rfl ?_
    refine gx_ld (i := 7) (d := 0) (v := .inl 4294967291) rfl (fun _ => rfl) hl1 rfl rfl ?_
    refine ex_go (S := (69, l1, [], t0, n, 0)) rfl (fun _ => rfl) rfl ?_
    refine gx_ld (i := 7) (d := 0) (v := .inl 4294967291) rfl (fun _ => rfl) hl1 rfl rfl ?_
    refine ex_go (S := (73, l1, [.inl 4294967288, .inl 4294967291], t0, n, 0)) rfl (fun _ => rfl) rfl ?_
    refine ex_go (S := (76, l1, [], t0, n, 0)) rfl (fun _ => rfl) rfl ?_
    refine gx_ld (i := 5) (d := 0) (v := .inl h) rfl (fun _ => rfl) l1_5 rfl rfl ?_
    refine ex_go (S := (79, l1, [.inl 1, .inl h], t0, n, 0)) rfl (fun _ => rfl) rfl ?_
    refine gx_2f (c := .le) rfl (by first | decide | omega) (by first | decide | omega) (show ¬ (h ≤ 1) from by omega) rfl ?_
    refine gx_decS (i := 5) (a := h) rfl (fun _ => rfl) l1_5 (by first | decide | omega) (by first | decide | omega) rfl (fun l2 hl2 ml2 => ?_)
    have l2_0 : en_ld l2 0 = some (gx_r 302) := ml2 0 _ l1_0 rfl
    have l2_1 : en_ld l2 1 = some (.inl mo) := ml2 1 _ l1_1 rfl
    have l2_2 : en_ld l2 2 = some (.inl me) := ml2 2 _ l1_2 rfl
    have l2_3 : en_ld l2 3 = some (.inl ti) := ml2 3 _ l1_3 rfl
    have l2_4 : en_ld l2 4 = some (.inl ou) := ml2 4 _ l1_4 rfl
    have l2_6 : en_ld l2 6 = some (.inl i) := ml2 6 _ l1_6 rfl
    have l2_7 : en_ld l2 7 = some (.inl 4294967291) := ml2 7 _ hl1 rfl
    refine gx_ld (i := 0) (d := 2) (v := gx_r 302) rfl (fun _ => rfl) l2_0 rfl rfl ?_
    refine gxo_ref (a := 302) (c := 303) rfl g0 rfl rfl rfl rfl rfl ?_
    refine gx_ld (i := 5) (d := 0) (v := .inl (h - 1)) rfl (fun _ => rfl) hl2 rfl rfl ?_
    refine ex_go (S := (92, l2, [.inl 1, .inl (h - 1), gx_r 303], t0, n, 0)) rfl (fun _ => rfl) rfl ?_
    refine gx_isub rfl (by first | decide | omega) (by first | decide | omega) rfl ?_
    refine gx_ld (i := 7) (d := 0) (v := .inl 4294967291) rfl (fun _ => rfl) l2_7 rfl rfl ?_
    refine gx_ld (i := 0) (d := 2) (v := gx_r 302) rfl (fun _ => rfl) l2_0 rfl rfl ?_
    refine gxo_ref (a := 302) (c := 303) rfl g0 rfl rfl rfl rfl rfl ?_
    refine gx_ld (i := 5) (d := 0) (v := .inl (h - 1)) rfl (fun _ => rfl) hl2 rfl rfl ?_
    refine ex_go (S := (102, l2, [.inl 1, .inl (h - 1), gx_r 303, .inl 4294967291, .inl ((h - 1) - 1), gx_r 303], t0, n, 0)) rfl (fun _ => rfl) rfl ?_
    refine gx_isub rfl (by first | decide | omega) (by first | decide | omega) rfl ?_
    refine gx_ag (v := .inl x) (cb := fun c => Nat.beq c 0) rfl (fun _ => rfl) g0 rfl rfl kx (by first | decide | omega) rfl ?_
    refine gx_ld (i := 0) (d := 2) (v := gx_r 302) rfl (fun _ => rfl) l2_0 rfl rfl ?_
    refine gxo_ref (a := 302) (c := 303) rfl g0 rfl rfl rfl rfl rfl ?_
    refine gx_ld (i := 5) (d := 0) (v := .inl (h - 1)) rfl (fun _ => rfl) hl2 rfl rfl ?_
    refine gx_ag (v := .inl y) (cb := fun c => Nat.beq c 0) rfl (fun _ => rfl) g0 rfl rfl ky (by first | decide | omega) rfl ?_
    have hvb := vb_lt (o := opm 4294967291) (a := x) (b := y)
    refine ex_stat rfl rfl rfl rfl rfl (pc_joined d n (t0 := t0) (z := 4294967291) (x := x) (y := y) (by first | decide | omega) (by first | decide | omega) (by first | decide | omega)) (Nat.le_refl _) rfl ?_
    show en_ex _ _ _ _ (114, l2, [.inl (vb (opm 4294967291) x y), .inl ((h - 1) - 1), gx_r 303], t0, n, 0) _
    refine gx_ap rfl (fun _ => rfl) g0 rfl rfl rfl (show (h - 1) - 1 < 25 from by omega) (gx_run1 (show (h - 1) - 1 < 25 from by omega)) (gx_full (by first | decide | omega)) rfl (fun t103 g103 k103 e103 => ?_)
    have k4 : ai_hv t103 303 (h - 1) = some (.inl y) := (e103 303 (h - 1) (by first | decide | omega)).trans ky
    have k5 : ai_hv t103 302 2 = some (.inl s) := (e103 302 2 (by first | decide | omega)).trans ks
    have k6 : ai_hv t103 304 i = some (.inl 4294967291) := (e103 304 i (by first | decide | omega)).trans kz
    refine ex_go (S := (147, l2, [], t103, n, 0)) rfl (fun _ => rfl) rfl ?_
    refine gx_incS (i := 6) (a := i) (x := 1) rfl (fun _ => rfl) l2_6 (by first | decide | omega) rfl (fun l7 hl7 ml7 => ?_)
    have l7_0 : en_ld l7 0 = some (gx_r 302) := ml7 0 _ l2_0 rfl
    have l7_1 : en_ld l7 1 = some (.inl mo) := ml7 1 _ l2_1 rfl
    have l7_2 : en_ld l7 2 = some (.inl me) := ml7 2 _ l2_2 rfl
    have l7_3 : en_ld l7 3 = some (.inl ti) := ml7 3 _ l2_3 rfl
    have l7_4 : en_ld l7 4 = some (.inl ou) := ml7 4 _ l2_4 rfl
    have l7_7 : en_ld l7 7 = some (.inl 4294967291) := ml7 7 _ l2_7 rfl
    have l7_5 : en_ld l7 5 = some (.inl (h - 1)) := ml7 5 _ hl2 rfl
    refine ex_go (S := (6, l7, [], t103, n, 0)) rfl (fun _ => rfl) rfl ?_
    exact hQ _ t103 g103 (fun c j h9 => e103 c j (by first | decide | omega)) k103 l7_0 l7_1 l7_2 l7_3 l7_4 l7_5 hl7
  · refine gx_ld (i := 6) (d := 0) (v := .inl i) rfl (fun _ => rfl) h6 rfl rfl ?_
    refine gx_ld (i := 0) (d := 2) (v := gx_r 302) rfl (fun _ => rfl) h0 rfl rfl ?_
    refine gxo_get (a := 302) rfl g0 rfl rfl ks rfl ?_
    refine gx_2f (c := .ge) rfl (by first | decide | omega) (by first | decide | omega) (show ¬ (s ≤ i) from by omega) rfl ?_
    refine gx_ld (i := 0) (d := 2) (v := gx_r 302) rfl (fun _ => rfl) h0 rfl rfl ?_
    refine gxo_ref (a := 302) (c := 304) rfl g0 rfl rfl rfl rfl rfl ?_
    refine gx_ld (i := 6) (d := 0) (v := .inl i) rfl (fun _ => rfl) h6 rfl rfl ?_
    refine gx_ag (v := .inl 4294967294) (cb := fun c => Nat.beq c 0) rfl (fun _ => rfl) g0 rfl rfl kz (by first | decide | omega) rfl ?_
    refine gx_sto (i := 7) (d := 0) rfl (fun _ => rfl) rfl rfl (fun l1 hl1 ml1 => ?_)
    have l1_0 : en_ld l1 0 = some (gx_r 302) := ml1 0 _ h0 rfl
    have l1_1 : en_ld l1 1 = some (.inl mo) := ml1 1 _ hm rfl
    have l1_2 : en_ld l1 2 = some (.inl me) := ml1 2 _ ha rfl
    have l1_3 : en_ld l1 3 = some (.inl ti) := ml1 3 _ hb rfl
    have l1_4 : en_ld l1 4 = some (.inl ou) := ml1 4 _ ho4 rfl
    have l1_5 : en_ld l1 5 = some (.inl h) := ml1 5 _ h5 rfl
    have l1_6 : en_ld l1 6 = some (.inl i) := ml1 6 _ h6 rfl
    refine gx_ld (i := 7) (d := 0) (v := .inl 4294967294) rfl (fun _ => rfl) hl1 rfl rfl ?_
    refine ex_go (S := (27, l1, [.inl 4294967295, .inl 4294967294], t0, n, 0)) rfl (fun _ => rfl) rfl ?_
    refine ex_go (S := (64, l1, [], t0, n, 0)) rfl (fun _ => rfl) rfl ?_
    refine gx_ld (i := 7) (d := 0) (v := .inl 4294967294) rfl (fun _ => rfl) hl1 rfl rfl ?_
    refine ex_go (S := (69, l1, [], t0, n, 0)) rfl (fun _ => rfl) rfl ?_
    refine gx_ld (i := 7) (d := 0) (v := .inl 4294967294) rfl (fun _ => rfl) hl1 rfl rfl ?_
    refine ex_go (S := (73, l1, [.inl 4294967288, .inl 4294967294], t0, n, 0)) rfl (fun _ => rfl) rfl ?_
    refine ex_go (S := (76, l1, [], t0, n, 0)) rfl (fun _ => rfl) rfl ?_
    refine gx_ld (i := 5) (d := 0) (v := .inl h) rfl (fun _ => rfl) l1_5 rfl rfl ?_
    refine ex_go (S := (79, l1, [.inl 1, .inl h], t0, n, 0)) rfl (fun _ => rfl) rfl ?_
    refine gx_2f (c := .le) rfl (by first | decide | omega) (by first | decide | omega) (show ¬ (h ≤ 1) from by omega) rfl ?_
    refine gx_decS (i := 5) (a := h) rfl (fun _ => rfl) l1_5 (by first | decide | omega) (by first | decide | omega) rfl (fun l2 hl2 ml2 => ?_)
    have l2_0 : en_ld l2 0 = some (gx_r 302) := ml2 0 _ l1_0 rfl
    have l2_1 : en_ld l2 1 = some (.inl mo) := ml2 1 _ l1_1 rfl
    have l2_2 : en_ld l2 2 = some (.inl me) := ml2 2 _ l1_2 rfl
    have l2_3 : en_ld l2 3 = some (.inl ti) := ml2 3 _ l1_3 rfl
    have l2_4 : en_ld l2 4 = some (.inl ou) := ml2 4 _ l1_4 rfl
    have l2_6 : en_ld l2 6 = some (.inl i) := ml2 6 _ l1_6 rfl
    have l2_7 : en_ld l2 7 = some (.inl 4294967294) := ml2 7 _ hl1 rfl
    refine gx_ld (i := 0) (d := 2) (v := gx_r 302) rfl (fun _ => rfl) l2_0 rfl rfl ?_
    refine gxo_ref (a := 302) (c := 303) rfl g0 rfl rfl rfl rfl rfl ?_
    refine gx_ld (i := 5) (d := 0) (v := .inl (h - 1)) rfl (fun _ => rfl) hl2 rfl rfl ?_
    refine ex_go (S := (92, l2, [.inl 1, .inl (h - 1), gx_r 303], t0, n, 0)) rfl (fun _ => rfl) rfl ?_
    refine gx_isub rfl (by first | decide | omega) (by first | decide | omega) rfl ?_
    refine gx_ld (i := 7) (d := 0) (v := .inl 4294967294) rfl (fun _ => rfl) l2_7 rfl rfl ?_
    refine gx_ld (i := 0) (d := 2) (v := gx_r 302) rfl (fun _ => rfl) l2_0 rfl rfl ?_
    refine gxo_ref (a := 302) (c := 303) rfl g0 rfl rfl rfl rfl rfl ?_
    refine gx_ld (i := 5) (d := 0) (v := .inl (h - 1)) rfl (fun _ => rfl) hl2 rfl rfl ?_
    refine ex_go (S := (102, l2, [.inl 1, .inl (h - 1), gx_r 303, .inl 4294967294, .inl ((h - 1) - 1), gx_r 303], t0, n, 0)) rfl (fun _ => rfl) rfl ?_
    refine gx_isub rfl (by first | decide | omega) (by first | decide | omega) rfl ?_
    refine gx_ag (v := .inl x) (cb := fun c => Nat.beq c 0) rfl (fun _ => rfl) g0 rfl rfl kx (by first | decide | omega) rfl ?_
    refine gx_ld (i := 0) (d := 2) (v := gx_r 302) rfl (fun _ => rfl) l2_0 rfl rfl ?_
    refine gxo_ref (a := 302) (c := 303) rfl g0 rfl rfl rfl rfl rfl ?_
    refine gx_ld (i := 5) (d := 0) (v := .inl (h - 1)) rfl (fun _ => rfl) hl2 rfl rfl ?_
    refine gx_ag (v := .inl y) (cb := fun c => Nat.beq c 0) rfl (fun _ => rfl) g0 rfl rfl ky (by first | decide | omega) rfl ?_
    have hvb := vb_lt (o := opm 4294967294) (a := x) (b := y)
    refine ex_stat rfl rfl rfl rfl rfl (pc_joined d n (t0 := t0) (z := 4294967294) (x := x) (y := y) (by first | decide | omega) (by first | decide | omega) (by first | decide | omega)) (Nat.le_refl _) rfl ?_
    show en_ex _ _ _ _ (114, l2, [.inl (vb (opm 4294967294) x y), .inl ((h - 1) - 1), gx_r 303], t0, n, 0) _
    refine gx_ap rfl (fun _ => rfl) g0 rfl rfl rfl (show (h - 1) - 1 < 25 from by omega) (gx_run1 (show (h - 1) - 1 < 25 from by omega)) (gx_full (by first | decide | omega)) rfl (fun t103 g103 k103 e103 => ?_)
    have k4 : ai_hv t103 303 (h - 1) = some (.inl y) := (e103 303 (h - 1) (by first | decide | omega)).trans ky
    have k5 : ai_hv t103 302 2 = some (.inl s) := (e103 302 2 (by first | decide | omega)).trans ks
    have k6 : ai_hv t103 304 i = some (.inl 4294967294) := (e103 304 i (by first | decide | omega)).trans kz
    refine ex_go (S := (147, l2, [], t103, n, 0)) rfl (fun _ => rfl) rfl ?_
    refine gx_incS (i := 6) (a := i) (x := 1) rfl (fun _ => rfl) l2_6 (by first | decide | omega) rfl (fun l7 hl7 ml7 => ?_)
    have l7_0 : en_ld l7 0 = some (gx_r 302) := ml7 0 _ l2_0 rfl
    have l7_1 : en_ld l7 1 = some (.inl mo) := ml7 1 _ l2_1 rfl
    have l7_2 : en_ld l7 2 = some (.inl me) := ml7 2 _ l2_2 rfl
    have l7_3 : en_ld l7 3 = some (.inl ti) := ml7 3 _ l2_3 rfl
    have l7_4 : en_ld l7 4 = some (.inl ou) := ml7 4 _ l2_4 rfl
    have l7_7 : en_ld l7 7 = some (.inl 4294967294) := ml7 7 _ l2_7 rfl
    have l7_5 : en_ld l7 5 = some (.inl (h - 1)) := ml7 5 _ hl2 rfl
    refine ex_go (S := (6, l7, [], t103, n, 0)) rfl (fun _ => rfl) rfl ?_
    exact hQ _ t103 g103 (fun c j h9 => e103 c j (by first | decide | omega)) k103 l7_0 l7_1 l7_2 l7_3 l7_4 l7_5 hl7
  · refine gx_ld (i := 6) (d := 0) (v := .inl i) rfl (fun _ => rfl) h6 rfl rfl ?_
    refine gx_ld (i := 0) (d := 2) (v := gx_r 302) rfl (fun _ => rfl) h0 rfl rfl ?_
    refine gxo_get (a := 302) rfl g0 rfl rfl ks rfl ?_
    refine gx_2f (c := .ge) rfl (by first | decide | omega) (by first | decide | omega) (show ¬ (s ≤ i) from by omega) rfl ?_
    refine gx_ld (i := 0) (d := 2) (v := gx_r 302) rfl (fun _ => rfl) h0 rfl rfl ?_
    refine gxo_ref (a := 302) (c := 304) rfl g0 rfl rfl rfl rfl rfl ?_
    refine gx_ld (i := 6) (d := 0) (v := .inl i) rfl (fun _ => rfl) h6 rfl rfl ?_
    refine gx_ag (v := .inl 4294967293) (cb := fun c => Nat.beq c 0) rfl (fun _ => rfl) g0 rfl rfl kz (by first | decide | omega) rfl ?_
    refine gx_sto (i := 7) (d := 0) rfl (fun _ => rfl) rfl rfl (fun l1 hl1 ml1 => ?_)
    have l1_0 : en_ld l1 0 = some (gx_r 302) := ml1 0 _ h0 rfl
    have l1_1 : en_ld l1 1 = some (.inl mo) := ml1 1 _ hm rfl
    have l1_2 : en_ld l1 2 = some (.inl me) := ml1 2 _ ha rfl
    have l1_3 : en_ld l1 3 = some (.inl ti) := ml1 3 _ hb rfl
    have l1_4 : en_ld l1 4 = some (.inl ou) := ml1 4 _ ho4 rfl
    have l1_5 : en_ld l1 5 = some (.inl h) := ml1 5 _ h5 rfl
    have l1_6 : en_ld l1 6 = some (.inl i) := ml1 6 _ h6 rfl
    refine gx_ld (i := 7) (d := 0) (v := .inl 4294967293) rfl (fun _ => rfl) hl1 rfl rfl ?_
    refine ex_go (S := (27, l1, [.inl 4294967295, .inl 4294967293], t0, n, 0)) rfl (fun _ => rfl) rfl ?_
    refine ex_go (S := (64, l1, [], t0, n, 0)) rfl (fun _ => rfl) rfl ?_
    refine gx_ld (i := 7) (d := 0) (v := .inl 4294967293) rfl (fun _ => rfl) hl1 rfl rfl ?_
    refine ex_go (S := (69, l1, [], t0, n, 0)) rfl (fun _ => rfl) rfl ?_
    refine gx_ld (i := 7) (d := 0) (v := .inl 4294967293) rfl (fun _ => rfl) hl1 rfl rfl ?_
    refine ex_go (S := (73, l1, [.inl 4294967288, .inl 4294967293], t0, n, 0)) rfl (fun _ => rfl) rfl ?_
    refine ex_go (S := (76, l1, [], t0, n, 0)) rfl (fun _ => rfl) rfl ?_
    refine gx_ld (i := 5) (d := 0) (v := .inl h) rfl (fun _ => rfl) l1_5 rfl rfl ?_
    refine ex_go (S := (79, l1, [.inl 1, .inl h], t0, n, 0)) rfl (fun _ => rfl) rfl ?_
    refine gx_2f (c := .le) rfl (by first | decide | omega) (by first | decide | omega) (show ¬ (h ≤ 1) from by omega) rfl ?_
    refine gx_decS (i := 5) (a := h) rfl (fun _ => rfl) l1_5 (by first | decide | omega) (by first | decide | omega) rfl (fun l2 hl2 ml2 => ?_)
    have l2_0 : en_ld l2 0 = some (gx_r 302) := ml2 0 _ l1_0 rfl
    have l2_1 : en_ld l2 1 = some (.inl mo) := ml2 1 _ l1_1 rfl
    have l2_2 : en_ld l2 2 = some (.inl me) := ml2 2 _ l1_2 rfl
    have l2_3 : en_ld l2 3 = some (.inl ti) := ml2 3 _ l1_3 rfl
    have l2_4 : en_ld l2 4 = some (.inl ou) := ml2 4 _ l1_4 rfl
    have l2_6 : en_ld l2 6 = some (.inl i) := ml2 6 _ l1_6 rfl
    have l2_7 : en_ld l2 7 = some (.inl 4294967293) := ml2 7 _ hl1 rfl
    refine gx_ld (i := 0) (d := 2) (v := gx_r 302) rfl (fun _ => rfl) l2_0 rfl rfl ?_
    refine gxo_ref (a := 302) (c := 303) rfl g0 rfl rfl rfl rfl rfl ?_
    refine gx_ld (i := 5) (d := 0) (v := .inl (h - 1)) rfl (fun _ => rfl) hl2 rfl rfl ?_
    refine ex_go (S := (92, l2, [.inl 1, .inl (h - 1), gx_r 303], t0, n, 0)) rfl (fun _ => rfl) rfl ?_
    refine gx_isub rfl (by first | decide | omega) (by first | decide | omega) rfl ?_
    refine gx_ld (i := 7) (d := 0) (v := .inl 4294967293) rfl (fun _ => rfl) l2_7 rfl rfl ?_
    refine gx_ld (i := 0) (d := 2) (v := gx_r 302) rfl (fun _ => rfl) l2_0 rfl rfl ?_
    refine gxo_ref (a := 302) (c := 303) rfl g0 rfl rfl rfl rfl rfl ?_
    refine gx_ld (i := 5) (d := 0) (v := .inl (h - 1)) rfl (fun _ => rfl) hl2 rfl rfl ?_
    refine ex_go (S := (102, l2, [.inl 1, .inl (h - 1), gx_r 303, .inl 4294967293, .inl ((h - 1) - 1), gx_r 303], t0, n, 0)) rfl (fun _ => rfl) rfl ?_
    refine gx_isub rfl (by first | decide | omega) (by first | decide | omega) rfl ?_
    refine gx_ag (v := .inl x) (cb := fun c => Nat.beq c 0) rfl (fun _ => rfl) g0 rfl rfl kx (by first | decide | omega) rfl ?_
    refine gx_ld (i := 0) (d := 2) (v := gx_r 302) rfl (fun _ => rfl) l2_0 rfl rfl ?_
    refine gxo_ref (a := 302) (c := 303) rfl g0 rfl rfl rfl rfl rfl ?_
    refine gx_ld (i := 5) (d := 0) (v := .inl (h - 1)) rfl (fun _ => rfl) hl2 rfl rfl ?_
    refine gx_ag (v := .inl y) (cb := fun c => Nat.beq c 0) rfl (fun _ => rfl) g0 rfl rfl ky (by first | decide | omega) rfl ?_
    have hvb := vb_lt (o := opm 4294967293) (a := x) (b := y)
    refine ex_stat rfl rfl rfl rfl rfl (pc_joined d n (t0 := t0) (z := 4294967293) (x := x) (y := y) (by first | decide | omega) (by first | decide | omega) (by first | decide | omega)) (Nat.le_refl _) rfl ?_
    show en_ex _ _ _ _ (114, l2, [.inl (vb (opm 4294967293) x y), .inl ((h - 1) - 1), gx_r 303], t0, n, 0) _
    refine gx_ap rfl (fun _ => rfl) g0 rfl rfl rfl (show (h - 1) - 1 < 25 from by omega) (gx_run1 (show (h - 1) - 1 < 25 from by omega)) (gx_full (by first | decide | omega)) rfl (fun t103 g103 k103 e103 => ?_)
    have k4 : ai_hv t103 303 (h - 1) = some (.inl y) := (e103 303 (h - 1) (by first | decide | omega)).trans ky
    have k5 : ai_hv t103 302 2 = some (.inl s) := (e103 302 2 (by first | decide | omega)).trans ks
    have k6 : ai_hv t103 304 i = some (.inl 4294967293) := (e103 304 i (by first | decide | omega)).trans kz
    refine ex_go (S := (147, l2, [], t103, n, 0)) rfl (fun _ => rfl) rfl ?_
    refine gx_incS (i := 6) (a := i) (x := 1) rfl (fun _ => rfl) l2_6 (by first | decide | omega) rfl (fun l7 hl7 ml7 => ?_)
    have l7_0 : en_ld l7 0 = some (gx_r 302) := ml7 0 _ l2_0 rfl
    have l7_1 : en_ld l7 1 = some (.inl mo) := ml7 1 _ l2_1 rfl
    have l7_2 : en_ld l7 2 = some (.inl me) := ml7 2 _ l2_2 rfl
    have l7_3 : en_ld l7 3 = some (.inl ti) := ml7 3 _ l2_3 rfl
    have l7_4 : en_ld l7 4 = some (.inl ou) := ml7 4 _ l2_4 rfl
    have l7_7 : en_ld l7 7 = some (.inl 4294967293) := ml7 7 _ l2_7 rfl
    have l7_5 : en_ld l7 5 = some (.inl (h - 1)) := ml7 5 _ hl2 rfl
    refine ex_go (S := (6, l7, [], t103, n, 0)) rfl (fun _ => rfl) rfl ?_
    exact hQ _ t103 g103 (fun c j h9 => e103 c j (by first | decide | omega)) k103 l7_0 l7_1 l7_2 l7_3 l7_4 l7_5 hl7
theorem pv302_end (d n : Nat) {t0 : en_H} {cl : en_L} {mo me ti ou h i s v : Nat} {Q : en_O → Prop} (g0 : ai_HG ah_G t0) (h0 : en_ld cl 0 = some (gx_r 302)) (hm : en_ld cl 1 = some (.inl mo)) (ha : en_ld cl 2 = some (.inl me)) (hb : en_ld cl 3 = some (.inl ti)) (ho4 : en_ld cl 4 = some (.inl ou)) (h5 : en_ld cl 5 = some (.inl h)) (h6 : en_ld cl 6 = some (.inl i)) (ks : ai_hv t0 302 2 = some (.inl s)) (hs : s ≤ 1000) (hi : i = s) (hh : h = 1) (hmo : mo < 2147483648) (kv : ai_hv t0 303 0 = some (.inl v)) (hv : v < 4294967296) (hQ : Q (.inl (some (.inl (vcl mo v)), t0, n, 0))) : en_ex none (en_u (d + 1)) (en_code 210) (fun _ => false) (6, cl, [], t0, n, 0) Q := by
  refine gx_ld (i := 6) (d := 0) (v := .inl i) rfl (fun _ => rfl) h6 rfl rfl ?_
  refine gx_ld (i := 0) (d := 2) (v := gx_r 302) rfl (fun _ => rfl) h0 rfl rfl ?_
  refine gxo_get (a := 302) rfl g0 rfl rfl ks rfl ?_
  refine gx_2t (c := .ge) rfl (by first | decide | omega) (by first | decide | omega) (show s ≤ i from by omega) rfl ?_
  refine gx_ld (i := 5) (d := 0) (v := .inl h) rfl (fun _ => rfl) h5 rfl rfl ?_
  refine gx_1f (c := .le) rfl (by first | decide | omega) (show ¬ (h ≤ 0) from by omega) rfl ?_
  by_cases hvn : v < 2147483648
  · rw [vcl_n hvn] at hQ
    refine ex_go (S := (159, cl, [.inl 0], t0, n, 0)) rfl (fun _ => rfl) rfl ?_
    refine gx_ld (i := 1) (d := 0) (v := .inl mo) rfl (fun _ => rfl) hm rfl rfl ?_
    refine gx_ld (i := 0) (d := 2) (v := gx_r 302) rfl (fun _ => rfl) h0 rfl rfl ?_
    refine gxo_ref (a := 302) (c := 303) rfl g0 rfl rfl rfl rfl rfl ?_
    refine ex_go (S := (165, cl, [.inl 0, gx_r 303, .inl mo, .inl 0], t0, n, 0)) rfl (fun _ => rfl) rfl ?_
    refine gx_ag (v := .inl v) (cb := fun c => Nat.beq c 0) rfl (fun _ => rfl) g0 rfl rfl kv (by first | decide | omega) rfl ?_
    refine gx_inn rfl rfl rfl (zk_min (by first | decide | omega) (by first | decide | omega)) rfl rfl ?_
    refine gx_imm (m := min mo v) rfl rfl ((zk_max (by first | decide | omega) (by first | decide | omega)).trans (by rw [Nat.zero_max])) rfl rfl ?_
    refine ex_go (S := (176, cl, [.inl (min mo v)], t0, n, 0)) rfl (fun _ => rfl) rfl ?_
    refine ex_ret (r := (some (.inl (min mo v)), t0, n, 0)) rfl (fun _ => rfl) ?_
    exact hQ
  · rw [vcl_0 hvn] at hQ
    refine ex_go (S := (159, cl, [.inl 0], t0, n, 0)) rfl (fun _ => rfl) rfl ?_
    refine gx_ld (i := 1) (d := 0) (v := .inl mo) rfl (fun _ => rfl) hm rfl rfl ?_
    refine gx_ld (i := 0) (d := 2) (v := gx_r 302) rfl (fun _ => rfl) h0 rfl rfl ?_
    refine gxo_ref (a := 302) (c := 303) rfl g0 rfl rfl rfl rfl rfl ?_
    refine ex_go (S := (165, cl, [.inl 0, gx_r 303, .inl mo, .inl 0], t0, n, 0)) rfl (fun _ => rfl) rfl ?_
    refine gx_ag (v := .inl v) (cb := fun c => Nat.beq c 0) rfl (fun _ => rfl) g0 rfl rfl kv (by first | decide | omega) rfl ?_
    refine gx_inn (m := v) rfl rfl rfl (zk_minn (by first | decide | omega) (by first | decide | omega) (by first | decide | omega)) rfl rfl ?_
    refine gx_imm (m := 0) rfl rfl (zk_maxn (by first | decide | omega) (by first | decide | omega)) rfl rfl ?_
    refine ex_go (S := (176, cl, [.inl 0], t0, n, 0)) rfl (fun _ => rfl) rfl ?_
    refine ex_ret (r := (some (.inl 0), t0, n, 0)) rfl (fun _ => rfl) ?_
    exact hQ
theorem pv302_l (d n : Nat) {tb : en_H} {mo me ti ou s : Nat} (hmo : mo < 2147483648) (hme : me < 4294967296) (hti : ti < 4294967296) (hou : ou < 4294967296) (kb : ai_hv tb 302 2 = some (.inl s)) (hs : s ≤ 1000) : ∀ (L : List Nat) (i : Nat) (q : List Nat) (cl : en_L) (t0 : en_H), cco tb 302 i L → i + L.length = s → (∀ z, z ∈ L → ∃ fh, vo fh z) → hrun 25 L q.length = some 1 → q.length ≤ 25 → ai_HG ah_G t0 → (∀ c i, c ≠ 303 → ai_hv t0 c i = ai_hv tb c i) → stk t0 303 q → en_ld cl 0 = some (gx_r 302) → en_ld cl 1 = some (.inl mo) → en_ld cl 2 = some (.inl me) → en_ld cl 3 = some (.inl ti) → en_ld cl 4 = some (.inl ou) → en_ld cl 5 = some (.inl q.length) → en_ld cl 6 = some (.inl i) → en_ex none (en_u (d + 1)) (en_code 210) (fun _ => false) (6, cl, [], t0, n, 0) (fun o => ∃ v t1, o = .inl (some (.inl (vcl mo v)), t1, n, 0) ∧ vrun me ti ou L q = [v] ∧ v < 4294967296 ∧ ai_HG ah_G t1 ∧ (∀ c i, c ≠ 303 → ai_hv t1 c i = ai_hv tb c i))
  | [], i, q, cl, t0, hc, hi, hv, hr, hq, g0, e0, hst, l0, l1, l2, l3, l4, l5, l6 => by
    have hr : some q.length = some 1 := hr
    have hl := Option.some.inj hr
    match q, hl, hst, l5 with
    | [v], _, hst, l5 =>
      exact pv302_end d n g0 l0 l1 l2 l3 l4 l5 l6 ((e0 302 2 (by decide)).trans kb) hs hi rfl hmo hst.1 hst.2.1 ⟨v, t0, rfl, rfl, hst.2.1, g0, e0⟩
  | z :: L, i, q, cl, t0, hc, hi, hv, hr, hq, g0, e0, hst, l0, l1, l2, l3, l4, l5, l6 => by
    obtain ⟨c1, c3⟩ := hc
    have hi' : i + (L.length + 1) = s := hi
    have hvz := hv z List.mem_cons_self
    have hvL : ∀ z, z ∈ L → ∃ fh, vo fh z := fun z hz => hv z (List.mem_cons_of_mem _ hz)
    have hr : (if vk z = 0 then (if q.length < 25 then hrun 25 L (q.length + 1) else none) else if vk z = 1 then (if 1 ≤ q.length then hrun 25 L q.length else none) else (if 2 ≤ q.length then hrun 25 L (q.length - 1) else none)) = some 1 := hr
    have k1 : ai_hv t0 304 i = some (.inl z) := (e0 304 i (by decide)).trans c1
    have ks := (e0 302 2 (by decide)).trans kb
    show en_ex none (en_u (d + 1)) (en_code 210) (fun _ => false) (6, cl, [], t0, n, 0) (fun o => ∃ v t1, o = .inl (some (.inl (vcl mo v)), t1, n, 0) ∧ vrun me ti ou L (vs me ti ou z q) = [v] ∧ v < 4294967296 ∧ ai_HG ah_G t1 ∧ (∀ c i, c ≠ 303 → ai_hv t1 c i = ai_hv tb c i))
    by_cases z0 : vk z = 0
    · rw [if_pos z0] at hr
      by_cases hq2 : q.length < 25
      · rw [if_pos hq2] at hr
        have hvs : vs me ti ou z q = vpt me ti ou z :: q := by unfold vs; rw [if_pos z0]
        rw [hvs]
        have hz := vk_nn z0 (Or.inr hvz)
        have hvp : vpt me ti ou z < 4294967296 := vpt_lt hme hti hou hz
        exact pv302_val d n g0 l0 l1 l2 l3 l4 l5 l6 ks hs (by first | decide | omega) hq hme hti hou hz k1 hq2 (fun cl' t' g' e' k' m0 m1 m2 m3 m4 m5 m6 => pv302_l d n hmo hme hti hou kb hs L (i + 1) (vpt me ti ou z :: q) cl' t' c3 (by first | decide | omega) hvL hr (by show q.length + 1 ≤ 25; omega) g' (fun c j h9 => (e' c j (by first | decide | omega)).trans (e0 c j h9)) ⟨k', hvp, stk_keep hst (fun j hj => e' 303 j (by first | decide | omega))⟩ m0 m1 m2 m3 m4 m5 m6)
      · rw [if_neg hq2] at hr
        cases hr
    · rw [if_neg z0] at hr
      by_cases z1 : vk z = 1
      · rw [if_pos z1] at hr
        match q, hst, hr, hq, l5 with
        | [], hst, hr, hq, l5 => exact absurd hr (by rw [if_neg (by decide)]; exact fun z => by cases z)
        | x :: r, hst, hr, hq, l5 =>
          have hr : hrun 25 L (r.length + 1) = some 1 := by rw [← hr]; exact (if_pos (Nat.succ_le_succ (Nat.zero_le _))).symm
          have hvs : vs me ti ou z (x :: r) = vnot x :: r := by unfold vs; rw [if_neg z0, if_pos z1]
          rw [hvs]
          rw [vk_1 z1] at k1
          have hq' : r.length + 1 ≤ 25 := hq
          have l5' : en_ld cl 5 = some (.inl (r.length + 1)) := l5
          have kx : ai_hv t0 303 (r.length + 1 - 1) = some (.inl x) := hst.1
          exact pv302_not d n g0 l0 l1 l2 l3 l4 l5' l6 ks hs (by first | decide | omega) hq' hme hti hou k1 (by first | decide | omega) kx hst.2.1 (fun cl' t' g' e' k' m0 m1 m2 m3 m4 m5 m6 => pv302_l d n hmo hme hti hou kb hs L (i + 1) (vnot x :: r) cl' t' c3 (by first | decide | omega) hvL hr hq' g' (fun c j h9 => (e' c j (by first | decide | omega)).trans (e0 c j h9)) ⟨k', vnot_lt, stk_keep hst.2.2 (fun j hj => e' 303 j (by first | decide | omega))⟩ m0 m1 m2 m3 m4 m5 m6)
      · rw [if_neg z1] at hr
        match q, hst, hr, hq, l5 with
        | [], hst, hr, hq, l5 => exact absurd hr (by rw [if_neg (by decide)]; exact fun z => by cases z)
        | [x], hst, hr, hq, l5 => exact absurd hr (by rw [if_neg (show ¬ 2 ≤ [x].length from (by show ¬ 2 ≤ 1; decide))]; exact fun z => by cases z)
        | y :: x :: r, hst, hr, hq, l5 =>
          have hr : hrun 25 L (r.length + 1) = some 1 := by rw [← hr]; exact (if_pos (Nat.succ_le_succ (Nat.succ_le_succ (Nat.zero_le _)))).symm
          have hvs : vs me ti ou z (y :: x :: r) = vb (opm z) x y :: r := by unfold vs; rw [if_neg z0, if_neg z1]
          rw [hvs]
          have hzz := vo_cd z0 z1
          have hq' : r.length + 1 + 1 ≤ 25 := hq
          have l5' : en_ld cl 5 = some (.inl (r.length + 1 + 1)) := l5
          have ky : ai_hv t0 303 (r.length + 1 + 1 - 1) = some (.inl y) := hst.1
          have kx : ai_hv t0 303 (r.length + 1 + 1 - 1 - 1) = some (.inl x) := hst.2.2.1
          exact pv302_bin d n g0 l0 l1 l2 l3 l4 l5' l6 ks hs (by first | decide | omega) hq' hme hti hou (by first | decide | omega) k1 (by first | decide | omega) ky hst.2.1 kx hst.2.2.2.1 (fun cl' t' g' e' k' m0 m1 m2 m3 m4 m5 m6 => pv302_l d n hmo hme hti hou kb hs L (i + 1) (vb (opm z) x y :: r) cl' t' c3 (by first | decide | omega) hvL hr (by show r.length + 1 ≤ 25; omega) g' (fun c j h9 => (e' c j (by first | decide | omega)).trans (e0 c j h9)) ⟨k', vb_lt, stk_keep hst.2.2.2.2 (fun j hj => e' 303 j (by first | decide | omega))⟩ m0 m1 m2 m3 m4 m5 m6)
theorem pc_value302 (d n : Nat) {t0 : en_H} {mo me ti ou : Nat} {L : List Nat} (g0 : ai_HG ah_G t0) (hmo : mo < 2147483648) (hme : me < 4294967296) (hti : ti < 4294967296) (hou : ou < 4294967296) (kb : ai_hv t0 302 2 = some (.inl L.length)) (hs : L.length ≤ 1000) (hc : cco t0 302 0 L) (hv : ∀ z, z ∈ L → ∃ fh, vo fh z) (hr : hrun 25 L 0 = some 1) : ∃ r, en_u (d + 2) 210 [gx_r 302, .inl mo, .inl me, .inl ti, .inl ou] t0 n = some r ∧ ∃ v t', r = (some (.inl (vcl mo v)), t', n, 0) ∧ vrun me ti ou L [] = [v] ∧ v < 4294967296 ∧ ai_HG ah_G t' ∧ (∀ c i, c ≠ 303 → ai_hv t' c i = ai_hv t0 c i) := by
  refine en_u_ex (d := d + 1) rfl ?_
  show en_ex _ _ _ _ (0, [(0, gx_r 302), (1, .inl mo), (2, .inl me), (3, .inl ti), (4, .inl ou)], [], t0, n, 0) _
  refine ex_go (S := (1, [(0, gx_r 302), (1, .inl mo), (2, .inl me), (3, .inl ti), (4, .inl ou)], [.inl 0], t0, n, 0)) rfl (fun _ => rfl) rfl ?_
  refine ex_go (S := (3, [(5, .inl 0), (0, gx_r 302), (1, .inl mo), (2, .inl me), (3, .inl ti), (4, .inl ou)], [], t0, n, 0)) rfl (fun _ => rfl) rfl ?_
  refine ex_go (S := (4, [(5, .inl 0), (0, gx_r 302), (1, .inl mo), (2, .inl me), (3, .inl ti), (4, .inl ou)], [.inl 0], t0, n, 0)) rfl (fun _ => rfl) rfl ?_
  refine ex_go (S := (6, [(6, .inl 0), (5, .inl 0), (0, gx_r 302), (1, .inl mo), (2, .inl me), (3, .inl ti), (4, .inl ou)], [], t0, n, 0)) rfl (fun _ => rfl) rfl ?_
  exact ex_imp (fun o9 h9 => by
    obtain ⟨v, t1, h8, h7⟩ := h9
    exact ⟨_, h8, v, t1, rfl, h7⟩) (pv302_l d n hmo hme hti hou kb hs L 0 [] _ t0 hc (Nat.zero_add _) hv hr (by decide) g0 (fun c i h => rfl) trivial rfl rfl rfl rfl rfl rfl rfl)
end SVA
