section PKG
variable {f : en_F} {code : Nat → Option en_I} {stop : Nat → Bool} {P : en_O → Prop} {Lv : List en_V} {oc : Option (List en_V)}
variable {pc nx : Nat} {ls : en_L} {st : List en_V} {t : en_H} {n sl : Nat}
theorem gx_scr {x1 x2 i : Nat} {v : en_V} (hc : code pc = some (.iaload, nx, x1, x2)) (hv : Lv[i]? = some v) (hb : i < 2147483648) (hp : stop nx = false) (h : en_ex (some Lv) f code stop (nx, ls, v :: st, t, n, sl) P) : en_ex (some Lv) f code stop (pc, ls, .inl i :: .inr (.inr (.inr (.inl 2))) :: st, t, n, sl) P := by
  refine ex_go (S := (nx, ls, v :: st, t, n, sl)) hc (fun k => ?_) hp h
  show (bif Nat.blt i 2147483648 then (match en_nth Lv i with | some v => k nx ls (v :: st) t n sl | none => none) else none) = _
  rw [gx_blt hb, en_nth_eq, hv]
  rfl
theorem gx_scl {x1 x2 L : Nat} (hc : code pc = some (.arraylength, nx, x1, x2)) (hl : Lv.length = L) (hp : stop nx = false) (h : en_ex (some Lv) f code stop (nx, ls, .inl L :: st, t, n, sl) P) : en_ex (some Lv) f code stop (pc, ls, .inr (.inr (.inr (.inl 2))) :: st, t, n, sl) P := by
  refine ex_go (S := (nx, ls, .inl L :: st, t, n, sl)) hc (fun k => ?_) hp h
  show k nx ls (.inl (en_len Lv) :: st) t n sl = _
  rw [en_len_eq, hl]
theorem gx_2same {j : Int} {x1 x2 x : Nat} (hc : code pc = some (.if_icmp .eq j, nx, x1, x2)) (hp : stop x1 = false) (h : en_ex oc f code stop (x1, ls, st, t, n, sl) P) : en_ex oc f code stop (pc, ls, .inl x :: .inl x :: st, t, n, sl) P :=
  ex_cmp2 (r := true) hc (show en_eq (.inl x) (.inl x) = some true from (ai_en_eq x x).trans (by rw [decide_eq_true rfl])) hp h
theorem gx_pop {x1 x2 : Nat} {v : en_V} (hc : code pc = some (.pop, nx, x1, x2)) (hv : en_cat v = 1) (hp : stop nx = false) (h : en_ex oc f code stop (nx, ls, st, t, n, sl) P) : en_ex oc f code stop (pc, ls, v :: st, t, n, sl) P := by
  refine ex_go (S := (nx, ls, st, t, n, sl)) hc (fun k => ?_) hp h
  show (bif Nat.beq (en_cat v) 1 then k nx ls st t n sl else none) = _
  rw [hv]
  rfl
theorem gx_pop2 {x1 x2 : Nat} {v : en_V} (hc : code pc = some (.pop2, nx, x1, x2)) (hv : en_cat v = 2) (hp : stop nx = false) (h : en_ex oc f code stop (nx, ls, st, t, n, sl) P) : en_ex oc f code stop (pc, ls, v :: st, t, n, sl) P := by
  refine ex_go (S := (nx, ls, st, t, n, sl)) hc (fun k => ?_) hp h
  show (bif Nat.beq (en_cat v) 2 then k nx ls st t n sl else none) = _
  rw [hv]
  rfl
theorem gx_iand31 {x1 x2 a : Nat} (hc : code pc = some (.iand, nx, x1, x2)) (ha : a < 4294967296) (hp : stop nx = false) (h : ∀ z, z ≤ 31 → en_ex oc f code stop (nx, ls, .inl z :: st, t, n, sl) P) : en_ex oc f code stop (pc, ls, .inl 31 :: .inl a :: st, t, n, sl) P := by
  refine ex_go (S := (nx, ls, .inl (nI a &&& nI 31).toBitVec.toNat :: st, t, n, sl)) hc (fun k => rfl) hp (h _ ?_)
  obtain ⟨z, e, z1, z2, z3⟩ := ai_iand_ok (0, 4294967295) (2147483679, 2147483679) (2147483648, 2147483679) a 31 rfl ⟨ha, Nat.zero_le _, by unfold ai_off; omega⟩ ⟨by decide, by decide, by decide⟩
  have e2 : (some (.inl (nI a &&& nI 31).toBitVec.toNat) : Option en_V) = some (.inl z) := e
  rw [Sum.inl.inj (Option.some.inj e2)]
  unfold ai_off at z2 z3
  dsimp only at z2 z3
  omega
/-- the law's locals -/
noncomputable def lw_cl (cl : en_L) (i : Nat) : Prop := en_ld cl 0 = some (.inr (.inr (.inr (.inl 2)))) ∧ en_ld cl 1 = some (gx_r 0) ∧ en_ld cl 2 = some (gx_r 383) ∧ en_ld cl 3 = some (gx_r 412) ∧ en_ld cl 4 = some (.inl i)
noncomputable def lw_Lv (Lv : List en_V) (L : Nat) : Prop := Lv.length = L ∧ L ≤ 3584 ∧ ∀ j, j < L → ∃ x, x < 4294967296 ∧ Lv[j]? = some (.inl x)
noncomputable def lw_nx (i n sl : Nat) (o : en_O) : Prop := ∃ cl t, o = .inr (23, cl, [], t, n, sl) ∧ pi_I (i + 7) t ∧ lw_cl cl (i + 7)
theorem lw_0 {L i : Nat} {cl : en_L} (hLv : lw_Lv Lv L) (hi : i + 7 ≤ L) (hI : pi_I i t) (hcl : lw_cl cl i) : en_ex (some Lv) (en_u 60) en_lawc (fun pc => Nat.beq pc 23) (40, cl, [.inl 0], t, n, sl) (lw_nx i n sl) := by
  obtain ⟨h0, h1, h2, h3, h4⟩ := hcl
  have hL := hLv.2.1
  refine ex_go (S := (176, cl, [], t, n, sl)) rfl (fun _ => rfl) rfl ?_
  refine gx_ld (i := 1) (d := 2) (v := gx_r 0) rfl (fun _ => rfl) h1 rfl rfl ?_
  refine gx_ld (i := 0) (d := 2) (v := .inr (.inr (.inr (.inl 2)))) rfl (fun _ => rfl) h0 rfl rfl ?_
  refine gx_ld (i := 4) (d := 0) (v := .inl i) rfl (fun _ => rfl) h4 rfl rfl ?_
  refine ex_go (S := (181, cl, [.inl 1, .inl i, .inr (.inr (.inr (.inl 2))), gx_r 0], t, n, sl)) rfl (fun _ => rfl) rfl ?_
  refine ex_iadd rfl (by first | decide | omega) rfl ?_
  obtain ⟨m1, m1b, k2⟩ := hLv.2.2 (i + 1) (by first | decide | omega)
  refine gx_scr rfl k2 (by first | decide | omega) rfl ?_
  refine ex_go (S := (184, cl, [.inr (.inl ((nI m1).toInt64.toBitVec.toNat)), gx_r 0], t, n, sl)) rfl (fun _ => rfl) rfl ?_
  refine ex_go (S := (186, cl, [.inl 32, .inr (.inl ((nI m1).toInt64.toBitVec.toNat)), gx_r 0], t, n, sl)) rfl (fun _ => rfl) rfl ?_
  refine ex_go (S := (187, cl, [.inr (.inl (en_lshl ((nI m1).toInt64.toBitVec.toNat) 32)), gx_r 0], t, n, sl)) rfl (fun _ => rfl) rfl ?_
  refine gx_ld (i := 0) (d := 2) (v := .inr (.inr (.inr (.inl 2)))) rfl (fun _ => rfl) h0 rfl rfl ?_
  refine gx_ld (i := 4) (d := 0) (v := .inl i) rfl (fun _ => rfl) h4 rfl rfl ?_
  refine ex_go (S := (191, cl, [.inl 2, .inl i, .inr (.inr (.inr (.inl 2))), .inr (.inl (en_lshl ((nI m1).toInt64.toBitVec.toNat) 32)), gx_r 0], t, n, sl)) rfl (fun _ => rfl) rfl ?_
  refine ex_iadd rfl (by first | decide | omega) rfl ?_
  obtain ⟨m3, m3b, k4⟩ := hLv.2.2 (i + 2) (by first | decide | omega)
  refine gx_scr rfl k4 (by first | decide | omega) rfl ?_
  refine ex_go (S := (194, cl, [.inr (.inl ((nI m3).toInt64.toBitVec.toNat)), .inr (.inl (en_lshl ((nI m1).toInt64.toBitVec.toNat) 32)), gx_r 0], t, n, sl)) rfl (fun _ => rfl) rfl ?_
  refine ex_go (S := (197, cl, [.inr (.inl 4294967295), .inr (.inl ((nI m3).toInt64.toBitVec.toNat)), .inr (.inl (en_lshl ((nI m1).toInt64.toBitVec.toNat) 32)), gx_r 0], t, n, sl)) rfl (fun _ => rfl) rfl ?_
  refine ex_go (S := (198, cl, [.inr (.inl (en_land ((nI m3).toInt64.toBitVec.toNat) 4294967295)), .inr (.inl (en_lshl ((nI m1).toInt64.toBitVec.toNat) 32)), gx_r 0], t, n, sl)) rfl (fun _ => rfl) rfl ?_
  refine ex_go (S := (199, cl, [.inr (.inl (en_lor (en_lshl ((nI m1).toInt64.toBitVec.toNat) 32) (en_land ((nI m3).toInt64.toBitVec.toNat) 4294967295))), gx_r 0], t, n, sl)) rfl (fun _ => rfl) rfl ?_
  refine gx_ld (i := 0) (d := 2) (v := .inr (.inr (.inr (.inl 2)))) rfl (fun _ => rfl) h0 rfl rfl ?_
  refine gx_ld (i := 4) (d := 0) (v := .inl i) rfl (fun _ => rfl) h4 rfl rfl ?_
  refine ex_go (S := (203, cl, [.inl 3, .inl i, .inr (.inr (.inr (.inl 2))), .inr (.inl (en_lor (en_lshl ((nI m1).toInt64.toBitVec.toNat) 32) (en_land ((nI m3).toInt64.toBitVec.toNat) 4294967295))), gx_r 0], t, n, sl)) rfl (fun _ => rfl) rfl ?_
  refine ex_iadd rfl (by first | decide | omega) rfl ?_
  obtain ⟨m5, m5b, k6⟩ := hLv.2.2 (i + 3) (by first | decide | omega)
  refine gx_scr rfl k6 (by first | decide | omega) rfl ?_
  refine ex_go (S := (206, cl, [.inr (.inl ((nI m5).toInt64.toBitVec.toNat)), .inr (.inl (en_lor (en_lshl ((nI m1).toInt64.toBitVec.toNat) 32) (en_land ((nI m3).toInt64.toBitVec.toNat) 4294967295))), gx_r 0], t, n, sl)) rfl (fun _ => rfl) rfl ?_
  refine ex_go (S := (208, cl, [.inl 32, .inr (.inl ((nI m5).toInt64.toBitVec.toNat)), .inr (.inl (en_lor (en_lshl ((nI m1).toInt64.toBitVec.toNat) 32) (en_land ((nI m3).toInt64.toBitVec.toNat) 4294967295))), gx_r 0], t, n, sl)) rfl (fun _ => rfl) rfl ?_
  refine ex_go (S := (209, cl, [.inr (.inl (en_lshl ((nI m5).toInt64.toBitVec.toNat) 32)), .inr (.inl (en_lor (en_lshl ((nI m1).toInt64.toBitVec.toNat) 32) (en_land ((nI m3).toInt64.toBitVec.toNat) 4294967295))), gx_r 0], t, n, sl)) rfl (fun _ => rfl) rfl ?_
  refine gx_ld (i := 0) (d := 2) (v := .inr (.inr (.inr (.inl 2)))) rfl (fun _ => rfl) h0 rfl rfl ?_
  refine gx_ld (i := 4) (d := 0) (v := .inl i) rfl (fun _ => rfl) h4 rfl rfl ?_
  refine ex_go (S := (213, cl, [.inl 4, .inl i, .inr (.inr (.inr (.inl 2))), .inr (.inl (en_lshl ((nI m5).toInt64.toBitVec.toNat) 32)), .inr (.inl (en_lor (en_lshl ((nI m1).toInt64.toBitVec.toNat) 32) (en_land ((nI m3).toInt64.toBitVec.toNat) 4294967295))), gx_r 0], t, n, sl)) rfl (fun _ => rfl) rfl ?_
  refine ex_iadd rfl (by first | decide | omega) rfl ?_
  obtain ⟨m7, m7b, k8⟩ := hLv.2.2 (i + 4) (by first | decide | omega)
  refine gx_scr rfl k8 (by first | decide | omega) rfl ?_
  refine ex_go (S := (216, cl, [.inr (.inl ((nI m7).toInt64.toBitVec.toNat)), .inr (.inl (en_lshl ((nI m5).toInt64.toBitVec.toNat) 32)), .inr (.inl (en_lor (en_lshl ((nI m1).toInt64.toBitVec.toNat) 32) (en_land ((nI m3).toInt64.toBitVec.toNat) 4294967295))), gx_r 0], t, n, sl)) rfl (fun _ => rfl) rfl ?_
  refine ex_go (S := (219, cl, [.inr (.inl 4294967295), .inr (.inl ((nI m7).toInt64.toBitVec.toNat)), .inr (.inl (en_lshl ((nI m5).toInt64.toBitVec.toNat) 32)), .inr (.inl (en_lor (en_lshl ((nI m1).toInt64.toBitVec.toNat) 32) (en_land ((nI m3).toInt64.toBitVec.toNat) 4294967295))), gx_r 0], t, n, sl)) rfl (fun _ => rfl) rfl ?_
  refine ex_go (S := (220, cl, [.inr (.inl (en_land ((nI m7).toInt64.toBitVec.toNat) 4294967295)), .inr (.inl (en_lshl ((nI m5).toInt64.toBitVec.toNat) 32)), .inr (.inl (en_lor (en_lshl ((nI m1).toInt64.toBitVec.toNat) 32) (en_land ((nI m3).toInt64.toBitVec.toNat) 4294967295))), gx_r 0], t, n, sl)) rfl (fun _ => rfl) rfl ?_
  refine ex_go (S := (221, cl, [.inr (.inl (en_lor (en_lshl ((nI m5).toInt64.toBitVec.toNat) 32) (en_land ((nI m7).toInt64.toBitVec.toNat) 4294967295))), .inr (.inl (en_lor (en_lshl ((nI m1).toInt64.toBitVec.toNat) 32) (en_land ((nI m3).toInt64.toBitVec.toNat) 4294967295))), gx_r 0], t, n, sl)) rfl (fun _ => rfl) rfl ?_
  refine gx_ld (i := 0) (d := 2) (v := .inr (.inr (.inr (.inl 2)))) rfl (fun _ => rfl) h0 rfl rfl ?_
  refine gx_ld (i := 4) (d := 0) (v := .inl i) rfl (fun _ => rfl) h4 rfl rfl ?_
  refine ex_go (S := (225, cl, [.inl 5, .inl i, .inr (.inr (.inr (.inl 2))), .inr (.inl (en_lor (en_lshl ((nI m5).toInt64.toBitVec.toNat) 32) (en_land ((nI m7).toInt64.toBitVec.toNat) 4294967295))), .inr (.inl (en_lor (en_lshl ((nI m1).toInt64.toBitVec.toNat) 32) (en_land ((nI m3).toInt64.toBitVec.toNat) 4294967295))), gx_r 0], t, n, sl)) rfl (fun _ => rfl) rfl ?_
  refine ex_iadd rfl (by first | decide | omega) rfl ?_
  obtain ⟨m9, m9b, k10⟩ := hLv.2.2 (i + 5) (by first | decide | omega)
  refine gx_scr rfl k10 (by first | decide | omega) rfl ?_
  refine ex_go (S := (228, cl, [.inr (.inl ((nI m9).toInt64.toBitVec.toNat)), .inr (.inl (en_lor (en_lshl ((nI m5).toInt64.toBitVec.toNat) 32) (en_land ((nI m7).toInt64.toBitVec.toNat) 4294967295))), .inr (.inl (en_lor (en_lshl ((nI m1).toInt64.toBitVec.toNat) 32) (en_land ((nI m3).toInt64.toBitVec.toNat) 4294967295))), gx_r 0], t, n, sl)) rfl (fun _ => rfl) rfl ?_
  refine ex_go (S := (230, cl, [.inl 32, .inr (.inl ((nI m9).toInt64.toBitVec.toNat)), .inr (.inl (en_lor (en_lshl ((nI m5).toInt64.toBitVec.toNat) 32) (en_land ((nI m7).toInt64.toBitVec.toNat) 4294967295))), .inr (.inl (en_lor (en_lshl ((nI m1).toInt64.toBitVec.toNat) 32) (en_land ((nI m3).toInt64.toBitVec.toNat) 4294967295))), gx_r 0], t, n, sl)) rfl (fun _ => rfl) rfl ?_
  refine ex_go (S := (231, cl, [.inr (.inl (en_lshl ((nI m9).toInt64.toBitVec.toNat) 32)), .inr (.inl (en_lor (en_lshl ((nI m5).toInt64.toBitVec.toNat) 32) (en_land ((nI m7).toInt64.toBitVec.toNat) 4294967295))), .inr (.inl (en_lor (en_lshl ((nI m1).toInt64.toBitVec.toNat) 32) (en_land ((nI m3).toInt64.toBitVec.toNat) 4294967295))), gx_r 0], t, n, sl)) rfl (fun _ => rfl) rfl ?_
  refine gx_ld (i := 0) (d := 2) (v := .inr (.inr (.inr (.inl 2)))) rfl (fun _ => rfl) h0 rfl rfl ?_
  refine gx_ld (i := 4) (d := 0) (v := .inl i) rfl (fun _ => rfl) h4 rfl rfl ?_
  refine ex_go (S := (236, cl, [.inl 6, .inl i, .inr (.inr (.inr (.inl 2))), .inr (.inl (en_lshl ((nI m9).toInt64.toBitVec.toNat) 32)), .inr (.inl (en_lor (en_lshl ((nI m5).toInt64.toBitVec.toNat) 32) (en_land ((nI m7).toInt64.toBitVec.toNat) 4294967295))), .inr (.inl (en_lor (en_lshl ((nI m1).toInt64.toBitVec.toNat) 32) (en_land ((nI m3).toInt64.toBitVec.toNat) 4294967295))), gx_r 0], t, n, sl)) rfl (fun _ => rfl) rfl ?_
  refine ex_iadd rfl (by first | decide | omega) rfl ?_
  obtain ⟨m11, m11b, k12⟩ := hLv.2.2 (i + 6) (by first | decide | omega)
  refine gx_scr rfl k12 (by first | decide | omega) rfl ?_
  refine ex_go (S := (239, cl, [.inr (.inl ((nI m11).toInt64.toBitVec.toNat)), .inr (.inl (en_lshl ((nI m9).toInt64.toBitVec.toNat) 32)), .inr (.inl (en_lor (en_lshl ((nI m5).toInt64.toBitVec.toNat) 32) (en_land ((nI m7).toInt64.toBitVec.toNat) 4294967295))), .inr (.inl (en_lor (en_lshl ((nI m1).toInt64.toBitVec.toNat) 32) (en_land ((nI m3).toInt64.toBitVec.toNat) 4294967295))), gx_r 0], t, n, sl)) rfl (fun _ => rfl) rfl ?_
  refine ex_go (S := (242, cl, [.inr (.inl 4294967295), .inr (.inl ((nI m11).toInt64.toBitVec.toNat)), .inr (.inl (en_lshl ((nI m9).toInt64.toBitVec.toNat) 32)), .inr (.inl (en_lor (en_lshl ((nI m5).toInt64.toBitVec.toNat) 32) (en_land ((nI m7).toInt64.toBitVec.toNat) 4294967295))), .inr (.inl (en_lor (en_lshl ((nI m1).toInt64.toBitVec.toNat) 32) (en_land ((nI m3).toInt64.toBitVec.toNat) 4294967295))), gx_r 0], t, n, sl)) rfl (fun _ => rfl) rfl ?_
  refine ex_go (S := (243, cl, [.inr (.inl (en_land ((nI m11).toInt64.toBitVec.toNat) 4294967295)), .inr (.inl (en_lshl ((nI m9).toInt64.toBitVec.toNat) 32)), .inr (.inl (en_lor (en_lshl ((nI m5).toInt64.toBitVec.toNat) 32) (en_land ((nI m7).toInt64.toBitVec.toNat) 4294967295))), .inr (.inl (en_lor (en_lshl ((nI m1).toInt64.toBitVec.toNat) 32) (en_land ((nI m3).toInt64.toBitVec.toNat) 4294967295))), gx_r 0], t, n, sl)) rfl (fun _ => rfl) rfl ?_
  refine ex_go (S := (244, cl, [.inr (.inl (en_lor (en_lshl ((nI m9).toInt64.toBitVec.toNat) 32) (en_land ((nI m11).toInt64.toBitVec.toNat) 4294967295))), .inr (.inl (en_lor (en_lshl ((nI m5).toInt64.toBitVec.toNat) 32) (en_land ((nI m7).toInt64.toBitVec.toNat) 4294967295))), .inr (.inl (en_lor (en_lshl ((nI m1).toInt64.toBitVec.toNat) 32) (en_land ((nI m3).toInt64.toBitVec.toNat) 4294967295))), gx_r 0], t, n, sl)) rfl (fun _ => rfl) rfl ?_
  obtain ⟨xf, tf1, tf2, rf1, rf2, hxf, gf1, If⟩ := pr_0 (n := n) (u := en_lor (en_lshl ((nI m1).toInt64.toBitVec.toNat) 32) (en_land ((nI m3).toInt64.toBitVec.toNat) 4294967295)) (v := en_lor (en_lshl ((nI m5).toInt64.toBitVec.toNat) 32) (en_land ((nI m7).toInt64.toBitVec.toNat) 4294967295)) (w := en_lor (en_lshl ((nI m9).toInt64.toBitVec.toNat) 32) (en_land ((nI m11).toInt64.toBitVec.toNat) 4294967295)) hI
  refine gx_callo (a := 0) rfl rfl hI.1 rfl rfl rfl rf1 rfl ?_
  show en_ex _ _ _ _ (247, cl, [.inl xf], tf1, n, sl) _
  refine gx_pop rfl rfl rfl ?_
  refine gx_ld (i := 2) (d := 2) (v := gx_r 383) rfl (fun _ => rfl) h2 rfl rfl ?_
  refine gx_ld (i := 0) (d := 2) (v := .inr (.inr (.inr (.inl 2)))) rfl (fun _ => rfl) h0 rfl rfl ?_
  refine gx_ld (i := 4) (d := 0) (v := .inl i) rfl (fun _ => rfl) h4 rfl rfl ?_
  refine ex_go (S := (253, cl, [.inl 1, .inl i, .inr (.inr (.inr (.inl 2))), gx_r 383], tf1, n, sl)) rfl (fun _ => rfl) rfl ?_
  refine ex_iadd rfl (by first | decide | omega) rfl ?_
  refine gx_scr rfl k2 (by first | decide | omega) rfl ?_
  refine ex_go (S := (256, cl, [.inr (.inl ((nI m1).toInt64.toBitVec.toNat)), gx_r 383], tf1, n, sl)) rfl (fun _ => rfl) rfl ?_
  refine ex_go (S := (258, cl, [.inl 32, .inr (.inl ((nI m1).toInt64.toBitVec.toNat)), gx_r 383], tf1, n, sl)) rfl (fun _ => rfl) rfl ?_
  refine ex_go (S := (259, cl, [.inr (.inl (en_lshl ((nI m1).toInt64.toBitVec.toNat) 32)), gx_r 383], tf1, n, sl)) rfl (fun _ => rfl) rfl ?_
  refine gx_ld (i := 0) (d := 2) (v := .inr (.inr (.inr (.inl 2)))) rfl (fun _ => rfl) h0 rfl rfl ?_
  refine gx_ld (i := 4) (d := 0) (v := .inl i) rfl (fun _ => rfl) h4 rfl rfl ?_
  refine ex_go (S := (263, cl, [.inl 2, .inl i, .inr (.inr (.inr (.inl 2))), .inr (.inl (en_lshl ((nI m1).toInt64.toBitVec.toNat) 32)), gx_r 383], tf1, n, sl)) rfl (fun _ => rfl) rfl ?_
  refine ex_iadd rfl (by first | decide | omega) rfl ?_
  refine gx_scr rfl k4 (by first | decide | omega) rfl ?_
  refine ex_go (S := (266, cl, [.inr (.inl ((nI m3).toInt64.toBitVec.toNat)), .inr (.inl (en_lshl ((nI m1).toInt64.toBitVec.toNat) 32)), gx_r 383], tf1, n, sl)) rfl (fun _ => rfl) rfl ?_
  refine ex_go (S := (269, cl, [.inr (.inl 4294967295), .inr (.inl ((nI m3).toInt64.toBitVec.toNat)), .inr (.inl (en_lshl ((nI m1).toInt64.toBitVec.toNat) 32)), gx_r 383], tf1, n, sl)) rfl (fun _ => rfl) rfl ?_
  refine ex_go (S := (270, cl, [.inr (.inl (en_land ((nI m3).toInt64.toBitVec.toNat) 4294967295)), .inr (.inl (en_lshl ((nI m1).toInt64.toBitVec.toNat) 32)), gx_r 383], tf1, n, sl)) rfl (fun _ => rfl) rfl ?_
  refine ex_go (S := (271, cl, [.inr (.inl (en_lor (en_lshl ((nI m1).toInt64.toBitVec.toNat) 32) (en_land ((nI m3).toInt64.toBitVec.toNat) 4294967295))), gx_r 383], tf1, n, sl)) rfl (fun _ => rfl) rfl ?_
  refine gx_ld (i := 0) (d := 2) (v := .inr (.inr (.inr (.inl 2)))) rfl (fun _ => rfl) h0 rfl rfl ?_
  refine gx_ld (i := 4) (d := 0) (v := .inl i) rfl (fun _ => rfl) h4 rfl rfl ?_
  refine ex_go (S := (275, cl, [.inl 3, .inl i, .inr (.inr (.inr (.inl 2))), .inr (.inl (en_lor (en_lshl ((nI m1).toInt64.toBitVec.toNat) 32) (en_land ((nI m3).toInt64.toBitVec.toNat) 4294967295))), gx_r 383], tf1, n, sl)) rfl (fun _ => rfl) rfl ?_
  refine ex_iadd rfl (by first | decide | omega) rfl ?_
  refine gx_scr rfl k6 (by first | decide | omega) rfl ?_
  refine ex_go (S := (278, cl, [.inr (.inl ((nI m5).toInt64.toBitVec.toNat)), .inr (.inl (en_lor (en_lshl ((nI m1).toInt64.toBitVec.toNat) 32) (en_land ((nI m3).toInt64.toBitVec.toNat) 4294967295))), gx_r 383], tf1, n, sl)) rfl (fun _ => rfl) rfl ?_
  refine ex_go (S := (280, cl, [.inl 32, .inr (.inl ((nI m5).toInt64.toBitVec.toNat)), .inr (.inl (en_lor (en_lshl ((nI m1).toInt64.toBitVec.toNat) 32) (en_land ((nI m3).toInt64.toBitVec.toNat) 4294967295))), gx_r 383], tf1, n, sl)) rfl (fun _ => rfl) rfl ?_
  refine ex_go (S := (281, cl, [.inr (.inl (en_lshl ((nI m5).toInt64.toBitVec.toNat) 32)), .inr (.inl (en_lor (en_lshl ((nI m1).toInt64.toBitVec.toNat) 32) (en_land ((nI m3).toInt64.toBitVec.toNat) 4294967295))), gx_r 383], tf1, n, sl)) rfl (fun _ => rfl) rfl ?_
  refine gx_ld (i := 0) (d := 2) (v := .inr (.inr (.inr (.inl 2)))) rfl (fun _ => rfl) h0 rfl rfl ?_
  refine gx_ld (i := 4) (d := 0) (v := .inl i) rfl (fun _ => rfl) h4 rfl rfl ?_
  refine ex_go (S := (285, cl, [.inl 4, .inl i, .inr (.inr (.inr (.inl 2))), .inr (.inl (en_lshl ((nI m5).toInt64.toBitVec.toNat) 32)), .inr (.inl (en_lor (en_lshl ((nI m1).toInt64.toBitVec.toNat) 32) (en_land ((nI m3).toInt64.toBitVec.toNat) 4294967295))), gx_r 383], tf1, n, sl)) rfl (fun _ => rfl) rfl ?_
  refine ex_iadd rfl (by first | decide | omega) rfl ?_
  refine gx_scr rfl k8 (by first | decide | omega) rfl ?_
  refine ex_go (S := (288, cl, [.inr (.inl ((nI m7).toInt64.toBitVec.toNat)), .inr (.inl (en_lshl ((nI m5).toInt64.toBitVec.toNat) 32)), .inr (.inl (en_lor (en_lshl ((nI m1).toInt64.toBitVec.toNat) 32) (en_land ((nI m3).toInt64.toBitVec.toNat) 4294967295))), gx_r 383], tf1, n, sl)) rfl (fun _ => rfl) rfl ?_
  refine ex_go (S := (291, cl, [.inr (.inl 4294967295), .inr (.inl ((nI m7).toInt64.toBitVec.toNat)), .inr (.inl (en_lshl ((nI m5).toInt64.toBitVec.toNat) 32)), .inr (.inl (en_lor (en_lshl ((nI m1).toInt64.toBitVec.toNat) 32) (en_land ((nI m3).toInt64.toBitVec.toNat) 4294967295))), gx_r 383], tf1, n, sl)) rfl (fun _ => rfl) rfl ?_
  refine ex_go (S := (292, cl, [.inr (.inl (en_land ((nI m7).toInt64.toBitVec.toNat) 4294967295)), .inr (.inl (en_lshl ((nI m5).toInt64.toBitVec.toNat) 32)), .inr (.inl (en_lor (en_lshl ((nI m1).toInt64.toBitVec.toNat) 32) (en_land ((nI m3).toInt64.toBitVec.toNat) 4294967295))), gx_r 383], tf1, n, sl)) rfl (fun _ => rfl) rfl ?_
  refine ex_go (S := (293, cl, [.inr (.inl (en_lor (en_lshl ((nI m5).toInt64.toBitVec.toNat) 32) (en_land ((nI m7).toInt64.toBitVec.toNat) 4294967295))), .inr (.inl (en_lor (en_lshl ((nI m1).toInt64.toBitVec.toNat) 32) (en_land ((nI m3).toInt64.toBitVec.toNat) 4294967295))), gx_r 383], tf1, n, sl)) rfl (fun _ => rfl) rfl ?_
  refine gx_ld (i := 0) (d := 2) (v := .inr (.inr (.inr (.inl 2)))) rfl (fun _ => rfl) h0 rfl rfl ?_
  refine gx_ld (i := 4) (d := 0) (v := .inl i) rfl (fun _ => rfl) h4 rfl rfl ?_
  refine ex_go (S := (297, cl, [.inl 5, .inl i, .inr (.inr (.inr (.inl 2))), .inr (.inl (en_lor (en_lshl ((nI m5).toInt64.toBitVec.toNat) 32) (en_land ((nI m7).toInt64.toBitVec.toNat) 4294967295))), .inr (.inl (en_lor (en_lshl ((nI m1).toInt64.toBitVec.toNat) 32) (en_land ((nI m3).toInt64.toBitVec.toNat) 4294967295))), gx_r 383], tf1, n, sl)) rfl (fun _ => rfl) rfl ?_
  refine ex_iadd rfl (by first | decide | omega) rfl ?_
  refine gx_scr rfl k10 (by first | decide | omega) rfl ?_
  refine ex_go (S := (300, cl, [.inr (.inl ((nI m9).toInt64.toBitVec.toNat)), .inr (.inl (en_lor (en_lshl ((nI m5).toInt64.toBitVec.toNat) 32) (en_land ((nI m7).toInt64.toBitVec.toNat) 4294967295))), .inr (.inl (en_lor (en_lshl ((nI m1).toInt64.toBitVec.toNat) 32) (en_land ((nI m3).toInt64.toBitVec.toNat) 4294967295))), gx_r 383], tf1, n, sl)) rfl (fun _ => rfl) rfl ?_
  refine ex_go (S := (302, cl, [.inl 32, .inr (.inl ((nI m9).toInt64.toBitVec.toNat)), .inr (.inl (en_lor (en_lshl ((nI m5).toInt64.toBitVec.toNat) 32) (en_land ((nI m7).toInt64.toBitVec.toNat) 4294967295))), .inr (.inl (en_lor (en_lshl ((nI m1).toInt64.toBitVec.toNat) 32) (en_land ((nI m3).toInt64.toBitVec.toNat) 4294967295))), gx_r 383], tf1, n, sl)) rfl (fun _ => rfl) rfl ?_
  refine ex_go (S := (303, cl, [.inr (.inl (en_lshl ((nI m9).toInt64.toBitVec.toNat) 32)), .inr (.inl (en_lor (en_lshl ((nI m5).toInt64.toBitVec.toNat) 32) (en_land ((nI m7).toInt64.toBitVec.toNat) 4294967295))), .inr (.inl (en_lor (en_lshl ((nI m1).toInt64.toBitVec.toNat) 32) (en_land ((nI m3).toInt64.toBitVec.toNat) 4294967295))), gx_r 383], tf1, n, sl)) rfl (fun _ => rfl) rfl ?_
  refine gx_ld (i := 0) (d := 2) (v := .inr (.inr (.inr (.inl 2)))) rfl (fun _ => rfl) h0 rfl rfl ?_
  refine gx_ld (i := 4) (d := 0) (v := .inl i) rfl (fun _ => rfl) h4 rfl rfl ?_
  refine ex_go (S := (308, cl, [.inl 6, .inl i, .inr (.inr (.inr (.inl 2))), .inr (.inl (en_lshl ((nI m9).toInt64.toBitVec.toNat) 32)), .inr (.inl (en_lor (en_lshl ((nI m5).toInt64.toBitVec.toNat) 32) (en_land ((nI m7).toInt64.toBitVec.toNat) 4294967295))), .inr (.inl (en_lor (en_lshl ((nI m1).toInt64.toBitVec.toNat) 32) (en_land ((nI m3).toInt64.toBitVec.toNat) 4294967295))), gx_r 383], tf1, n, sl)) rfl (fun _ => rfl) rfl ?_
  refine ex_iadd rfl (by first | decide | omega) rfl ?_
  refine gx_scr rfl k12 (by first | decide | omega) rfl ?_
  refine ex_go (S := (311, cl, [.inr (.inl ((nI m11).toInt64.toBitVec.toNat)), .inr (.inl (en_lshl ((nI m9).toInt64.toBitVec.toNat) 32)), .inr (.inl (en_lor (en_lshl ((nI m5).toInt64.toBitVec.toNat) 32) (en_land ((nI m7).toInt64.toBitVec.toNat) 4294967295))), .inr (.inl (en_lor (en_lshl ((nI m1).toInt64.toBitVec.toNat) 32) (en_land ((nI m3).toInt64.toBitVec.toNat) 4294967295))), gx_r 383], tf1, n, sl)) rfl (fun _ => rfl) rfl ?_
  refine ex_go (S := (314, cl, [.inr (.inl 4294967295), .inr (.inl ((nI m11).toInt64.toBitVec.toNat)), .inr (.inl (en_lshl ((nI m9).toInt64.toBitVec.toNat) 32)), .inr (.inl (en_lor (en_lshl ((nI m5).toInt64.toBitVec.toNat) 32) (en_land ((nI m7).toInt64.toBitVec.toNat) 4294967295))), .inr (.inl (en_lor (en_lshl ((nI m1).toInt64.toBitVec.toNat) 32) (en_land ((nI m3).toInt64.toBitVec.toNat) 4294967295))), gx_r 383], tf1, n, sl)) rfl (fun _ => rfl) rfl ?_
  refine ex_go (S := (315, cl, [.inr (.inl (en_land ((nI m11).toInt64.toBitVec.toNat) 4294967295)), .inr (.inl (en_lshl ((nI m9).toInt64.toBitVec.toNat) 32)), .inr (.inl (en_lor (en_lshl ((nI m5).toInt64.toBitVec.toNat) 32) (en_land ((nI m7).toInt64.toBitVec.toNat) 4294967295))), .inr (.inl (en_lor (en_lshl ((nI m1).toInt64.toBitVec.toNat) 32) (en_land ((nI m3).toInt64.toBitVec.toNat) 4294967295))), gx_r 383], tf1, n, sl)) rfl (fun _ => rfl) rfl ?_
  refine ex_go (S := (316, cl, [.inr (.inl (en_lor (en_lshl ((nI m9).toInt64.toBitVec.toNat) 32) (en_land ((nI m11).toInt64.toBitVec.toNat) 4294967295))), .inr (.inl (en_lor (en_lshl ((nI m5).toInt64.toBitVec.toNat) 32) (en_land ((nI m7).toInt64.toBitVec.toNat) 4294967295))), .inr (.inl (en_lor (en_lshl ((nI m1).toInt64.toBitVec.toNat) 32) (en_land ((nI m3).toInt64.toBitVec.toNat) 4294967295))), gx_r 383], tf1, n, sl)) rfl (fun _ => rfl) rfl ?_
  refine gx_callo (a := 383) rfl rfl gf1 rfl rfl rfl rf2 rfl ?_
  show en_ex _ _ _ _ (319, cl, [.inl xf], tf2, n, sl) _
  refine gx_pop rfl rfl rfl ?_
  refine ex_go (S := (1265, cl, [], tf2, n, sl)) rfl (fun _ => rfl) rfl ?_
  refine gx_incS (i := 4) (a := i) (x := 7) rfl (fun _ => rfl) h4 (by first | decide | omega) rfl (fun l13 hl13 ml13 => ?_)
  have l13_0 : en_ld l13 0 = some (.inr (.inr (.inr (.inl 2)))) := ml13 0 _ h0 rfl
  have l13_1 : en_ld l13 1 = some (gx_r 0) := ml13 1 _ h1 rfl
  have l13_2 : en_ld l13 2 = some (gx_r 383) := ml13 2 _ h2 rfl
  have l13_3 : en_ld l13 3 = some (gx_r 412) := ml13 3 _ h3 rfl
  refine ex_stop (S := (23, l13, [], tf2, n, sl)) rfl (fun _ => rfl) rfl ?_
  exact ⟨_, tf2, rfl, If, l13_0, l13_1, l13_2, l13_3, hl13⟩
theorem lw_1 {L i : Nat} {cl : en_L} (hLv : lw_Lv Lv L) (hi : i + 7 ≤ L) (hI : pi_I i t) (hcl : lw_cl cl i) : en_ex (some Lv) (en_u 60) en_lawc (fun pc => Nat.beq pc 23) (40, cl, [.inl 1], t, n, sl) (lw_nx i n sl) := by
  obtain ⟨h0, h1, h2, h3, h4⟩ := hcl
  have hL := hLv.2.1
  refine ex_go (S := (323, cl, [], t, n, sl)) rfl (fun _ => rfl) rfl ?_
  refine gx_ld (i := 1) (d := 2) (v := gx_r 0) rfl (fun _ => rfl) h1 rfl rfl ?_
  obtain ⟨v1, tf1, v2, tf2, rf1, rf2, c1, c2, gf1, If⟩ := pr_1 (n := n)  hI
  refine gx_callo (a := 0) rfl rfl hI.1 rfl rfl rfl rf1 rfl ?_
  show en_ex _ _ _ _ (327, cl, [v1], tf1, n, sl) _
  refine gx_pop rfl c1 rfl ?_
  refine gx_ld (i := 2) (d := 2) (v := gx_r 383) rfl (fun _ => rfl) h2 rfl rfl ?_
  refine gx_callo (a := 383) rfl rfl gf1 rfl rfl rfl rf2 rfl ?_
  show en_ex _ _ _ _ (332, cl, [v2], tf2, n, sl) _
  refine gx_pop rfl c2 rfl ?_
  refine ex_go (S := (1265, cl, [], tf2, n, sl)) rfl (fun _ => rfl) rfl ?_
  refine gx_incS (i := 4) (a := i) (x := 7) rfl (fun _ => rfl) h4 (by first | decide | omega) rfl (fun l1 hl1 ml1 => ?_)
  have l1_0 : en_ld l1 0 = some (.inr (.inr (.inr (.inl 2)))) := ml1 0 _ h0 rfl
  have l1_1 : en_ld l1 1 = some (gx_r 0) := ml1 1 _ h1 rfl
  have l1_2 : en_ld l1 2 = some (gx_r 383) := ml1 2 _ h2 rfl
  have l1_3 : en_ld l1 3 = some (gx_r 412) := ml1 3 _ h3 rfl
  refine ex_stop (S := (23, l1, [], tf2, n, sl)) rfl (fun _ => rfl) rfl ?_
  exact ⟨_, tf2, rfl, If, l1_0, l1_1, l1_2, l1_3, hl1⟩
theorem lw_2 {L i : Nat} {cl : en_L} (hLv : lw_Lv Lv L) (hi : i + 7 ≤ L) (hI : pi_I i t) (hcl : lw_cl cl i) : en_ex (some Lv) (en_u 60) en_lawc (fun pc => Nat.beq pc 23) (40, cl, [.inl 2], t, n, sl) (lw_nx i n sl) := by
  obtain ⟨h0, h1, h2, h3, h4⟩ := hcl
  have hL := hLv.2.1
  refine ex_go (S := (336, cl, [], t, n, sl)) rfl (fun _ => rfl) rfl ?_
  refine gx_ld (i := 1) (d := 2) (v := gx_r 0) rfl (fun _ => rfl) h1 rfl rfl ?_
  obtain ⟨xf, tf1, tf2, rf1, rf2, hxf, gf1, If⟩ := pr_2 (n := n)  hI
  refine gx_callo (a := 0) rfl rfl hI.1 rfl rfl rfl rf1 rfl ?_
  show en_ex _ _ _ _ (340, cl, [.inl xf], tf1, n, sl) _
  refine gx_pop rfl rfl rfl ?_
  refine gx_ld (i := 2) (d := 2) (v := gx_r 383) rfl (fun _ => rfl) h2 rfl rfl ?_
  refine gx_callo (a := 383) rfl rfl gf1 rfl rfl rfl rf2 rfl ?_
  show en_ex _ _ _ _ (345, cl, [.inl xf], tf2, n, sl) _
  refine gx_pop rfl rfl rfl ?_
  refine ex_go (S := (1265, cl, [], tf2, n, sl)) rfl (fun _ => rfl) rfl ?_
  refine gx_incS (i := 4) (a := i) (x := 7) rfl (fun _ => rfl) h4 (by first | decide | omega) rfl (fun l1 hl1 ml1 => ?_)
  have l1_0 : en_ld l1 0 = some (.inr (.inr (.inr (.inl 2)))) := ml1 0 _ h0 rfl
  have l1_1 : en_ld l1 1 = some (gx_r 0) := ml1 1 _ h1 rfl
  have l1_2 : en_ld l1 2 = some (gx_r 383) := ml1 2 _ h2 rfl
  have l1_3 : en_ld l1 3 = some (gx_r 412) := ml1 3 _ h3 rfl
  refine ex_stop (S := (23, l1, [], tf2, n, sl)) rfl (fun _ => rfl) rfl ?_
  exact ⟨_, tf2, rfl, If, l1_0, l1_1, l1_2, l1_3, hl1⟩
theorem lw_3 {L i : Nat} {cl : en_L} (hLv : lw_Lv Lv L) (hi : i + 7 ≤ L) (hI : pi_I i t) (hcl : lw_cl cl i) : en_ex (some Lv) (en_u 60) en_lawc (fun pc => Nat.beq pc 23) (40, cl, [.inl 3], t, n, sl) (lw_nx i n sl) := by
  obtain ⟨h0, h1, h2, h3, h4⟩ := hcl
  have hL := hLv.2.1
  refine ex_go (S := (349, cl, [], t, n, sl)) rfl (fun _ => rfl) rfl ?_
  refine gx_ld (i := 1) (d := 2) (v := gx_r 0) rfl (fun _ => rfl) h1 rfl rfl ?_
  refine gx_ld (i := 0) (d := 2) (v := .inr (.inr (.inr (.inl 2)))) rfl (fun _ => rfl) h0 rfl rfl ?_
  refine gx_ld (i := 4) (d := 0) (v := .inl i) rfl (fun _ => rfl) h4 rfl rfl ?_
  refine ex_go (S := (354, cl, [.inl 1, .inl i, .inr (.inr (.inr (.inl 2))), gx_r 0], t, n, sl)) rfl (fun _ => rfl) rfl ?_
  refine ex_iadd rfl (by first | decide | omega) rfl ?_
  obtain ⟨m1, m1b, k2⟩ := hLv.2.2 (i + 1) (by first | decide | omega)
  refine gx_scr rfl k2 (by first | decide | omega) rfl ?_
  refine gx_ld (i := 0) (d := 2) (v := .inr (.inr (.inr (.inl 2)))) rfl (fun _ => rfl) h0 rfl rfl ?_
  refine gx_ld (i := 4) (d := 0) (v := .inl i) rfl (fun _ => rfl) h4 rfl rfl ?_
  refine ex_go (S := (360, cl, [.inl 2, .inl i, .inr (.inr (.inr (.inl 2))), .inl m1, gx_r 0], t, n, sl)) rfl (fun _ => rfl) rfl ?_
  refine ex_iadd rfl (by first | decide | omega) rfl ?_
  obtain ⟨m3, m3b, k4⟩ := hLv.2.2 (i + 2) (by first | decide | omega)
  refine gx_scr rfl k4 (by first | decide | omega) rfl ?_
  obtain ⟨xf, tf1, tf2, rf1, rf2, gf1, If⟩ := pr_3 (n := n) (x := m1) (y := m3) (by first | decide | omega) (by first | decide | omega) hI
  refine gx_callo (a := 0) rfl rfl hI.1 rfl rfl rfl rf1 rfl ?_
  show en_ex _ _ _ _ (365, cl, [.inl xf], tf1, n, sl) _
  refine gx_pop rfl rfl rfl ?_
  refine gx_ld (i := 2) (d := 2) (v := gx_r 383) rfl (fun _ => rfl) h2 rfl rfl ?_
  refine gx_ld (i := 0) (d := 2) (v := .inr (.inr (.inr (.inl 2)))) rfl (fun _ => rfl) h0 rfl rfl ?_
  refine gx_ld (i := 4) (d := 0) (v := .inl i) rfl (fun _ => rfl) h4 rfl rfl ?_
  refine ex_go (S := (371, cl, [.inl 1, .inl i, .inr (.inr (.inr (.inl 2))), gx_r 383], tf1, n, sl)) rfl (fun _ => rfl) rfl ?_
  refine ex_iadd rfl (by first | decide | omega) rfl ?_
  refine gx_scr rfl k2 (by first | decide | omega) rfl ?_
  refine gx_ld (i := 0) (d := 2) (v := .inr (.inr (.inr (.inl 2)))) rfl (fun _ => rfl) h0 rfl rfl ?_
  refine gx_ld (i := 4) (d := 0) (v := .inl i) rfl (fun _ => rfl) h4 rfl rfl ?_
  refine ex_go (S := (377, cl, [.inl 2, .inl i, .inr (.inr (.inr (.inl 2))), .inl m1, gx_r 383], tf1, n, sl)) rfl (fun _ => rfl) rfl ?_
  refine ex_iadd rfl (by first | decide | omega) rfl ?_
  refine gx_scr rfl k4 (by first | decide | omega) rfl ?_
  refine gx_callo (a := 383) rfl rfl gf1 rfl rfl rfl rf2 rfl ?_
  show en_ex _ _ _ _ (382, cl, [.inl xf], tf2, n, sl) _
  refine gx_pop rfl rfl rfl ?_
  refine ex_go (S := (1265, cl, [], tf2, n, sl)) rfl (fun _ => rfl) rfl ?_
  refine gx_incS (i := 4) (a := i) (x := 7) rfl (fun _ => rfl) h4 (by first | decide | omega) rfl (fun l5 hl5 ml5 => ?_)
  have l5_0 : en_ld l5 0 = some (.inr (.inr (.inr (.inl 2)))) := ml5 0 _ h0 rfl
  have l5_1 : en_ld l5 1 = some (gx_r 0) := ml5 1 _ h1 rfl
  have l5_2 : en_ld l5 2 = some (gx_r 383) := ml5 2 _ h2 rfl
  have l5_3 : en_ld l5 3 = some (gx_r 412) := ml5 3 _ h3 rfl
  refine ex_stop (S := (23, l5, [], tf2, n, sl)) rfl (fun _ => rfl) rfl ?_
  exact ⟨_, tf2, rfl, If, l5_0, l5_1, l5_2, l5_3, hl5⟩
theorem lw_4 {L i : Nat} {cl : en_L} (hLv : lw_Lv Lv L) (hi : i + 7 ≤ L) (hI : pi_I i t) (hcl : lw_cl cl i) : en_ex (some Lv) (en_u 60) en_lawc (fun pc => Nat.beq pc 23) (40, cl, [.inl 4], t, n, sl) (lw_nx i n sl) := by
  obtain ⟨h0, h1, h2, h3, h4⟩ := hcl
  have hL := hLv.2.1
  refine ex_go (S := (386, cl, [], t, n, sl)) rfl (fun _ => rfl) rfl ?_
  refine gx_ld (i := 1) (d := 2) (v := gx_r 0) rfl (fun _ => rfl) h1 rfl rfl ?_
  refine gx_ld (i := 0) (d := 2) (v := .inr (.inr (.inr (.inl 2)))) rfl (fun _ => rfl) h0 rfl rfl ?_
  refine gx_ld (i := 4) (d := 0) (v := .inl i) rfl (fun _ => rfl) h4 rfl rfl ?_
  refine ex_go (S := (391, cl, [.inl 1, .inl i, .inr (.inr (.inr (.inl 2))), gx_r 0], t, n, sl)) rfl (fun _ => rfl) rfl ?_
  refine ex_iadd rfl (by first | decide | omega) rfl ?_
  obtain ⟨m1, m1b, k2⟩ := hLv.2.2 (i + 1) (by first | decide | omega)
  refine gx_scr rfl k2 (by first | decide | omega) rfl ?_
  refine gx_ld (i := 0) (d := 2) (v := .inr (.inr (.inr (.inl 2)))) rfl (fun _ => rfl) h0 rfl rfl ?_
  refine gx_ld (i := 4) (d := 0) (v := .inl i) rfl (fun _ => rfl) h4 rfl rfl ?_
  refine ex_go (S := (397, cl, [.inl 2, .inl i, .inr (.inr (.inr (.inl 2))), .inl m1, gx_r 0], t, n, sl)) rfl (fun _ => rfl) rfl ?_
  refine ex_iadd rfl (by first | decide | omega) rfl ?_
  obtain ⟨m3, m3b, k4⟩ := hLv.2.2 (i + 2) (by first | decide | omega)
  refine gx_scr rfl k4 (by first | decide | omega) rfl ?_
  refine gx_ld (i := 0) (d := 2) (v := .inr (.inr (.inr (.inl 2)))) rfl (fun _ => rfl) h0 rfl rfl ?_
  refine gx_ld (i := 4) (d := 0) (v := .inl i) rfl (fun _ => rfl) h4 rfl rfl ?_
  refine ex_go (S := (403, cl, [.inl 3, .inl i, .inr (.inr (.inr (.inl 2))), .inl m3, .inl m1, gx_r 0], t, n, sl)) rfl (fun _ => rfl) rfl ?_
  refine ex_iadd rfl (by first | decide | omega) rfl ?_
  obtain ⟨m5, m5b, k6⟩ := hLv.2.2 (i + 3) (by first | decide | omega)
  refine gx_scr rfl k6 (by first | decide | omega) rfl ?_
  obtain ⟨xf, tf1, tf2, rf1, rf2, gf1, If⟩ := pr_4 (n := n) (x := m1) (y := m3) (z := m5) (by first | decide | omega) (by first | decide | omega) (by first | decide | omega) hI (by first | decide | omega)
  refine gx_callo (a := 0) rfl rfl hI.1 rfl rfl rfl rf1 rfl ?_
  show en_ex _ _ _ _ (408, cl, [.inl xf], tf1, n, sl) _
  refine gx_pop rfl rfl rfl ?_
  refine gx_ld (i := 2) (d := 2) (v := gx_r 383) rfl (fun _ => rfl) h2 rfl rfl ?_
  refine gx_ld (i := 0) (d := 2) (v := .inr (.inr (.inr (.inl 2)))) rfl (fun _ => rfl) h0 rfl rfl ?_
  refine gx_ld (i := 4) (d := 0) (v := .inl i) rfl (fun _ => rfl) h4 rfl rfl ?_
  refine ex_go (S := (414, cl, [.inl 1, .inl i, .inr (.inr (.inr (.inl 2))), gx_r 383], tf1, n, sl)) rfl (fun _ => rfl) rfl ?_
  refine ex_iadd rfl (by first | decide | omega) rfl ?_
  refine gx_scr rfl k2 (by first | decide | omega) rfl ?_
  refine gx_ld (i := 0) (d := 2) (v := .inr (.inr (.inr (.inl 2)))) rfl (fun _ => rfl) h0 rfl rfl ?_
  refine gx_ld (i := 4) (d := 0) (v := .inl i) rfl (fun _ => rfl) h4 rfl rfl ?_
  refine ex_go (S := (420, cl, [.inl 2, .inl i, .inr (.inr (.inr (.inl 2))), .inl m1, gx_r 383], tf1, n, sl)) rfl (fun _ => rfl) rfl ?_
  refine ex_iadd rfl (by first | decide | omega) rfl ?_
  refine gx_scr rfl k4 (by first | decide | omega) rfl ?_
  refine gx_ld (i := 0) (d := 2) (v := .inr (.inr (.inr (.inl 2)))) rfl (fun _ => rfl) h0 rfl rfl ?_
  refine gx_ld (i := 4) (d := 0) (v := .inl i) rfl (fun _ => rfl) h4 rfl rfl ?_
  refine ex_go (S := (426, cl, [.inl 3, .inl i, .inr (.inr (.inr (.inl 2))), .inl m3, .inl m1, gx_r 383], tf1, n, sl)) rfl (fun _ => rfl) rfl ?_
  refine ex_iadd rfl (by first | decide | omega) rfl ?_
  refine gx_scr rfl k6 (by first | decide | omega) rfl ?_
  refine gx_callo (a := 383) rfl rfl gf1 rfl rfl rfl rf2 rfl ?_
  show en_ex _ _ _ _ (431, cl, [.inl xf], tf2, n, sl) _
  refine gx_pop rfl rfl rfl ?_
  refine ex_go (S := (1265, cl, [], tf2, n, sl)) rfl (fun _ => rfl) rfl ?_
  refine gx_incS (i := 4) (a := i) (x := 7) rfl (fun _ => rfl) h4 (by first | decide | omega) rfl (fun l7 hl7 ml7 => ?_)
  have l7_0 : en_ld l7 0 = some (.inr (.inr (.inr (.inl 2)))) := ml7 0 _ h0 rfl
  have l7_1 : en_ld l7 1 = some (gx_r 0) := ml7 1 _ h1 rfl
  have l7_2 : en_ld l7 2 = some (gx_r 383) := ml7 2 _ h2 rfl
  have l7_3 : en_ld l7 3 = some (gx_r 412) := ml7 3 _ h3 rfl
  refine ex_stop (S := (23, l7, [], tf2, n, sl)) rfl (fun _ => rfl) rfl ?_
  exact ⟨_, tf2, rfl, If, l7_0, l7_1, l7_2, l7_3, hl7⟩
theorem lw_7 {L i : Nat} {cl : en_L} (hLv : lw_Lv Lv L) (hi : i + 7 ≤ L) (hI : pi_I i t) (hcl : lw_cl cl i) : en_ex (some Lv) (en_u 60) en_lawc (fun pc => Nat.beq pc 23) (40, cl, [.inl 7], t, n, sl) (lw_nx i n sl) := by
  obtain ⟨h0, h1, h2, h3, h4⟩ := hcl
  have hL := hLv.2.1
  refine ex_go (S := (515, cl, [], t, n, sl)) rfl (fun _ => rfl) rfl ?_
  refine gx_ld (i := 1) (d := 2) (v := gx_r 0) rfl (fun _ => rfl) h1 rfl rfl ?_
  refine gx_ld (i := 0) (d := 2) (v := .inr (.inr (.inr (.inl 2)))) rfl (fun _ => rfl) h0 rfl rfl ?_
  refine gx_ld (i := 4) (d := 0) (v := .inl i) rfl (fun _ => rfl) h4 rfl rfl ?_
  refine ex_go (S := (520, cl, [.inl 1, .inl i, .inr (.inr (.inr (.inl 2))), gx_r 0], t, n, sl)) rfl (fun _ => rfl) rfl ?_
  refine ex_iadd rfl (by first | decide | omega) rfl ?_
  obtain ⟨m1, m1b, k2⟩ := hLv.2.2 (i + 1) (by first | decide | omega)
  refine gx_scr rfl k2 (by first | decide | omega) rfl ?_
  obtain ⟨xf, tf1, tf2, rf1, rf2, gf1, If⟩ := pr_7 (n := n) (x := m1) (by first | decide | omega) hI (by first | decide | omega)
  refine gx_callo (a := 0) rfl rfl hI.1 rfl rfl rfl rf1 rfl ?_
  show en_ex _ _ _ _ (525, cl, [.inl xf], tf1, n, sl) _
  refine gx_pop rfl rfl rfl ?_
  refine gx_ld (i := 2) (d := 2) (v := gx_r 383) rfl (fun _ => rfl) h2 rfl rfl ?_
  refine gx_ld (i := 0) (d := 2) (v := .inr (.inr (.inr (.inl 2)))) rfl (fun _ => rfl) h0 rfl rfl ?_
  refine gx_ld (i := 4) (d := 0) (v := .inl i) rfl (fun _ => rfl) h4 rfl rfl ?_
  refine ex_go (S := (531, cl, [.inl 1, .inl i, .inr (.inr (.inr (.inl 2))), gx_r 383], tf1, n, sl)) rfl (fun _ => rfl) rfl ?_
  refine ex_iadd rfl (by first | decide | omega) rfl ?_
  refine gx_scr rfl k2 (by first | decide | omega) rfl ?_
  refine gx_callo (a := 383) rfl rfl gf1 rfl rfl rfl rf2 rfl ?_
  show en_ex _ _ _ _ (536, cl, [.inl xf], tf2, n, sl) _
  refine gx_pop rfl rfl rfl ?_
  refine ex_go (S := (1265, cl, [], tf2, n, sl)) rfl (fun _ => rfl) rfl ?_
  refine gx_incS (i := 4) (a := i) (x := 7) rfl (fun _ => rfl) h4 (by first | decide | omega) rfl (fun l3 hl3 ml3 => ?_)
  have l3_0 : en_ld l3 0 = some (.inr (.inr (.inr (.inl 2)))) := ml3 0 _ h0 rfl
  have l3_1 : en_ld l3 1 = some (gx_r 0) := ml3 1 _ h1 rfl
  have l3_2 : en_ld l3 2 = some (gx_r 383) := ml3 2 _ h2 rfl
  have l3_3 : en_ld l3 3 = some (gx_r 412) := ml3 3 _ h3 rfl
  refine ex_stop (S := (23, l3, [], tf2, n, sl)) rfl (fun _ => rfl) rfl ?_
  exact ⟨_, tf2, rfl, If, l3_0, l3_1, l3_2, l3_3, hl3⟩
theorem lw_8 {L i : Nat} {cl : en_L} (hLv : lw_Lv Lv L) (hi : i + 7 ≤ L) (hI : pi_I i t) (hcl : lw_cl cl i) : en_ex (some Lv) (en_u 60) en_lawc (fun pc => Nat.beq pc 23) (40, cl, [.inl 8], t, n, sl) (lw_nx i n sl) := by
  obtain ⟨h0, h1, h2, h3, h4⟩ := hcl
  have hL := hLv.2.1
  refine ex_go (S := (540, cl, [], t, n, sl)) rfl (fun _ => rfl) rfl ?_
  refine gx_ld (i := 1) (d := 2) (v := gx_r 0) rfl (fun _ => rfl) h1 rfl rfl ?_
  refine gx_ld (i := 0) (d := 2) (v := .inr (.inr (.inr (.inl 2)))) rfl (fun _ => rfl) h0 rfl rfl ?_
  refine gx_ld (i := 4) (d := 0) (v := .inl i) rfl (fun _ => rfl) h4 rfl rfl ?_
  refine ex_go (S := (545, cl, [.inl 1, .inl i, .inr (.inr (.inr (.inl 2))), gx_r 0], t, n, sl)) rfl (fun _ => rfl) rfl ?_
  refine ex_iadd rfl (by first | decide | omega) rfl ?_
  obtain ⟨m1, m1b, k2⟩ := hLv.2.2 (i + 1) (by first | decide | omega)
  refine gx_scr rfl k2 (by first | decide | omega) rfl ?_
  refine gx_ld (i := 0) (d := 2) (v := .inr (.inr (.inr (.inl 2)))) rfl (fun _ => rfl) h0 rfl rfl ?_
  refine gx_ld (i := 4) (d := 0) (v := .inl i) rfl (fun _ => rfl) h4 rfl rfl ?_
  refine ex_go (S := (551, cl, [.inl 2, .inl i, .inr (.inr (.inr (.inl 2))), .inl m1, gx_r 0], t, n, sl)) rfl (fun _ => rfl) rfl ?_
  refine ex_iadd rfl (by first | decide | omega) rfl ?_
  obtain ⟨m3, m3b, k4⟩ := hLv.2.2 (i + 2) (by first | decide | omega)
  refine gx_scr rfl k4 (by first | decide | omega) rfl ?_
  refine gx_ld (i := 0) (d := 2) (v := .inr (.inr (.inr (.inl 2)))) rfl (fun _ => rfl) h0 rfl rfl ?_
  refine gx_ld (i := 4) (d := 0) (v := .inl i) rfl (fun _ => rfl) h4 rfl rfl ?_
  refine ex_go (S := (557, cl, [.inl 3, .inl i, .inr (.inr (.inr (.inl 2))), .inl m3, .inl m1, gx_r 0], t, n, sl)) rfl (fun _ => rfl) rfl ?_
  refine ex_iadd rfl (by first | decide | omega) rfl ?_
  obtain ⟨m5, m5b, k6⟩ := hLv.2.2 (i + 3) (by first | decide | omega)
  refine gx_scr rfl k6 (by first | decide | omega) rfl ?_
  obtain ⟨xf, tf1, tf2, rf1, rf2, gf1, If⟩ := pr_8 (n := n) (x := m1) (y := m3) (z := m5) (by first | decide | omega) (by first | decide | omega) (by first | decide | omega) hI (by first | decide | omega)
  refine gx_callo (a := 0) rfl rfl hI.1 rfl rfl rfl rf1 rfl ?_
  show en_ex _ _ _ _ (562, cl, [.inl xf], tf1, n, sl) _
  refine gx_pop rfl rfl rfl ?_
  refine gx_ld (i := 2) (d := 2) (v := gx_r 383) rfl (fun _ => rfl) h2 rfl rfl ?_
  refine gx_ld (i := 0) (d := 2) (v := .inr (.inr (.inr (.inl 2)))) rfl (fun _ => rfl) h0 rfl rfl ?_
  refine gx_ld (i := 4) (d := 0) (v := .inl i) rfl (fun _ => rfl) h4 rfl rfl ?_
  refine ex_go (S := (568, cl, [.inl 1, .inl i, .inr (.inr (.inr (.inl 2))), gx_r 383], tf1, n, sl)) rfl (fun _ => rfl) rfl ?_
  refine ex_iadd rfl (by first | decide | omega) rfl ?_
  refine gx_scr rfl k2 (by first | decide | omega) rfl ?_
  refine gx_ld (i := 0) (d := 2) (v := .inr (.inr (.inr (.inl 2)))) rfl (fun _ => rfl) h0 rfl rfl ?_
  refine gx_ld (i := 4) (d := 0) (v := .inl i) rfl (fun _ => rfl) h4 rfl rfl ?_
  refine ex_go (S := (574, cl, [.inl 2, .inl i, .inr (.inr (.inr (.inl 2))), .inl m1, gx_r 383], tf1, n, sl)) rfl (fun _ => rfl) rfl ?_
  refine ex_iadd rfl (by first | decide | omega) rfl ?_
  refine gx_scr rfl k4 (by first | decide | omega) rfl ?_
  refine gx_ld (i := 0) (d := 2) (v := .inr (.inr (.inr (.inl 2)))) rfl (fun _ => rfl) h0 rfl rfl ?_
  refine gx_ld (i := 4) (d := 0) (v := .inl i) rfl (fun _ => rfl) h4 rfl rfl ?_
  refine ex_go (S := (580, cl, [.inl 3, .inl i, .inr (.inr (.inr (.inl 2))), .inl m3, .inl m1, gx_r 383], tf1, n, sl)) rfl (fun _ => rfl) rfl ?_
  refine ex_iadd rfl (by first | decide | omega) rfl ?_
  refine gx_scr rfl k6 (by first | decide | omega) rfl ?_
  refine gx_callo (a := 383) rfl rfl gf1 rfl rfl rfl rf2 rfl ?_
  show en_ex _ _ _ _ (585, cl, [.inl xf], tf2, n, sl) _
  refine gx_pop rfl rfl rfl ?_
  refine ex_go (S := (1265, cl, [], tf2, n, sl)) rfl (fun _ => rfl) rfl ?_
  refine gx_incS (i := 4) (a := i) (x := 7) rfl (fun _ => rfl) h4 (by first | decide | omega) rfl (fun l7 hl7 ml7 => ?_)
  have l7_0 : en_ld l7 0 = some (.inr (.inr (.inr (.inl 2)))) := ml7 0 _ h0 rfl
  have l7_1 : en_ld l7 1 = some (gx_r 0) := ml7 1 _ h1 rfl
  have l7_2 : en_ld l7 2 = some (gx_r 383) := ml7 2 _ h2 rfl
  have l7_3 : en_ld l7 3 = some (gx_r 412) := ml7 3 _ h3 rfl
  refine ex_stop (S := (23, l7, [], tf2, n, sl)) rfl (fun _ => rfl) rfl ?_
  exact ⟨_, tf2, rfl, If, l7_0, l7_1, l7_2, l7_3, hl7⟩
theorem lw_9 {L i : Nat} {cl : en_L} (hLv : lw_Lv Lv L) (hi : i + 7 ≤ L) (hI : pi_I i t) (hcl : lw_cl cl i) : en_ex (some Lv) (en_u 60) en_lawc (fun pc => Nat.beq pc 23) (40, cl, [.inl 9], t, n, sl) (lw_nx i n sl) := by
  obtain ⟨h0, h1, h2, h3, h4⟩ := hcl
  have hL := hLv.2.1
  refine ex_go (S := (589, cl, [], t, n, sl)) rfl (fun _ => rfl) rfl ?_
  refine gx_ld (i := 1) (d := 2) (v := gx_r 0) rfl (fun _ => rfl) h1 rfl rfl ?_
  refine gx_ld (i := 0) (d := 2) (v := .inr (.inr (.inr (.inl 2)))) rfl (fun _ => rfl) h0 rfl rfl ?_
  refine gx_ld (i := 4) (d := 0) (v := .inl i) rfl (fun _ => rfl) h4 rfl rfl ?_
  refine ex_go (S := (594, cl, [.inl 1, .inl i, .inr (.inr (.inr (.inl 2))), gx_r 0], t, n, sl)) rfl (fun _ => rfl) rfl ?_
  refine ex_iadd rfl (by first | decide | omega) rfl ?_
  obtain ⟨m1, m1b, k2⟩ := hLv.2.2 (i + 1) (by first | decide | omega)
  refine gx_scr rfl k2 (by first | decide | omega) rfl ?_
  refine gx_ld (i := 0) (d := 2) (v := .inr (.inr (.inr (.inl 2)))) rfl (fun _ => rfl) h0 rfl rfl ?_
  refine gx_ld (i := 4) (d := 0) (v := .inl i) rfl (fun _ => rfl) h4 rfl rfl ?_
  refine ex_go (S := (600, cl, [.inl 2, .inl i, .inr (.inr (.inr (.inl 2))), .inl m1, gx_r 0], t, n, sl)) rfl (fun _ => rfl) rfl ?_
  refine ex_iadd rfl (by first | decide | omega) rfl ?_
  obtain ⟨m3, m3b, k4⟩ := hLv.2.2 (i + 2) (by first | decide | omega)
  refine gx_scr rfl k4 (by first | decide | omega) rfl ?_
  obtain ⟨xf, tf1, tf2, rf1, rf2, gf1, If⟩ := pr_9 (n := n) (x := m1) (y := m3) (by first | decide | omega) (by first | decide | omega) hI (by first | decide | omega)
  refine gx_callo (a := 0) rfl rfl hI.1 rfl rfl rfl rf1 rfl ?_
  show en_ex _ _ _ _ (605, cl, [.inl xf], tf1, n, sl) _
  refine gx_pop rfl rfl rfl ?_
  refine gx_ld (i := 2) (d := 2) (v := gx_r 383) rfl (fun _ => rfl) h2 rfl rfl ?_
  refine gx_ld (i := 0) (d := 2) (v := .inr (.inr (.inr (.inl 2)))) rfl (fun _ => rfl) h0 rfl rfl ?_
  refine gx_ld (i := 4) (d := 0) (v := .inl i) rfl (fun _ => rfl) h4 rfl rfl ?_
  refine ex_go (S := (611, cl, [.inl 1, .inl i, .inr (.inr (.inr (.inl 2))), gx_r 383], tf1, n, sl)) rfl (fun _ => rfl) rfl ?_
  refine ex_iadd rfl (by first | decide | omega) rfl ?_
  refine gx_scr rfl k2 (by first | decide | omega) rfl ?_
  refine gx_ld (i := 0) (d := 2) (v := .inr (.inr (.inr (.inl 2)))) rfl (fun _ => rfl) h0 rfl rfl ?_
  refine gx_ld (i := 4) (d := 0) (v := .inl i) rfl (fun _ => rfl) h4 rfl rfl ?_
  refine ex_go (S := (617, cl, [.inl 2, .inl i, .inr (.inr (.inr (.inl 2))), .inl m1, gx_r 383], tf1, n, sl)) rfl (fun _ => rfl) rfl ?_
  refine ex_iadd rfl (by first | decide | omega) rfl ?_
  refine gx_scr rfl k4 (by first | decide | omega) rfl ?_
  refine gx_callo (a := 383) rfl rfl gf1 rfl rfl rfl rf2 rfl ?_
  show en_ex _ _ _ _ (622, cl, [.inl xf], tf2, n, sl) _
  refine gx_pop rfl rfl rfl ?_
  refine ex_go (S := (1265, cl, [], tf2, n, sl)) rfl (fun _ => rfl) rfl ?_
  refine gx_incS (i := 4) (a := i) (x := 7) rfl (fun _ => rfl) h4 (by first | decide | omega) rfl (fun l5 hl5 ml5 => ?_)
  have l5_0 : en_ld l5 0 = some (.inr (.inr (.inr (.inl 2)))) := ml5 0 _ h0 rfl
  have l5_1 : en_ld l5 1 = some (gx_r 0) := ml5 1 _ h1 rfl
  have l5_2 : en_ld l5 2 = some (gx_r 383) := ml5 2 _ h2 rfl
  have l5_3 : en_ld l5 3 = some (gx_r 412) := ml5 3 _ h3 rfl
  refine ex_stop (S := (23, l5, [], tf2, n, sl)) rfl (fun _ => rfl) rfl ?_
  exact ⟨_, tf2, rfl, If, l5_0, l5_1, l5_2, l5_3, hl5⟩
theorem lw_10 {L i : Nat} {cl : en_L} (hLv : lw_Lv Lv L) (hi : i + 7 ≤ L) (hI : pi_I i t) (hcl : lw_cl cl i) : en_ex (some Lv) (en_u 60) en_lawc (fun pc => Nat.beq pc 23) (40, cl, [.inl 10], t, n, sl) (lw_nx i n sl) := by
  obtain ⟨h0, h1, h2, h3, h4⟩ := hcl
  have hL := hLv.2.1
  refine ex_go (S := (626, cl, [], t, n, sl)) rfl (fun _ => rfl) rfl ?_
  refine gx_ld (i := 1) (d := 2) (v := gx_r 0) rfl (fun _ => rfl) h1 rfl rfl ?_
  refine gx_ld (i := 0) (d := 2) (v := .inr (.inr (.inr (.inl 2)))) rfl (fun _ => rfl) h0 rfl rfl ?_
  refine gx_ld (i := 4) (d := 0) (v := .inl i) rfl (fun _ => rfl) h4 rfl rfl ?_
  refine ex_go (S := (631, cl, [.inl 1, .inl i, .inr (.inr (.inr (.inl 2))), gx_r 0], t, n, sl)) rfl (fun _ => rfl) rfl ?_
  refine ex_iadd rfl (by first | decide | omega) rfl ?_
  obtain ⟨m1, m1b, k2⟩ := hLv.2.2 (i + 1) (by first | decide | omega)
  refine gx_scr rfl k2 (by first | decide | omega) rfl ?_
  obtain ⟨xf, tf1, tf2, rf1, rf2, gf1, If⟩ := pr_10 (n := n) (x := m1) (by first | decide | omega) hI (by first | decide | omega)
  refine gx_callo (a := 0) rfl rfl hI.1 rfl rfl rfl rf1 rfl ?_
  show en_ex _ _ _ _ (636, cl, [.inl xf], tf1, n, sl) _
  refine gx_pop rfl rfl rfl ?_
  refine gx_ld (i := 2) (d := 2) (v := gx_r 383) rfl (fun _ => rfl) h2 rfl rfl ?_
  refine gx_ld (i := 0) (d := 2) (v := .inr (.inr (.inr (.inl 2)))) rfl (fun _ => rfl) h0 rfl rfl ?_
  refine gx_ld (i := 4) (d := 0) (v := .inl i) rfl (fun _ => rfl) h4 rfl rfl ?_
  refine ex_go (S := (642, cl, [.inl 1, .inl i, .inr (.inr (.inr (.inl 2))), gx_r 383], tf1, n, sl)) rfl (fun _ => rfl) rfl ?_
  refine ex_iadd rfl (by first | decide | omega) rfl ?_
  refine gx_scr rfl k2 (by first | decide | omega) rfl ?_
  refine gx_callo (a := 383) rfl rfl gf1 rfl rfl rfl rf2 rfl ?_
  show en_ex _ _ _ _ (647, cl, [.inl xf], tf2, n, sl) _
  refine gx_pop rfl rfl rfl ?_
  refine ex_go (S := (1265, cl, [], tf2, n, sl)) rfl (fun _ => rfl) rfl ?_
  refine gx_incS (i := 4) (a := i) (x := 7) rfl (fun _ => rfl) h4 (by first | decide | omega) rfl (fun l3 hl3 ml3 => ?_)
  have l3_0 : en_ld l3 0 = some (.inr (.inr (.inr (.inl 2)))) := ml3 0 _ h0 rfl
  have l3_1 : en_ld l3 1 = some (gx_r 0) := ml3 1 _ h1 rfl
  have l3_2 : en_ld l3 2 = some (gx_r 383) := ml3 2 _ h2 rfl
  have l3_3 : en_ld l3 3 = some (gx_r 412) := ml3 3 _ h3 rfl
  refine ex_stop (S := (23, l3, [], tf2, n, sl)) rfl (fun _ => rfl) rfl ?_
  exact ⟨_, tf2, rfl, If, l3_0, l3_1, l3_2, l3_3, hl3⟩
theorem lw_11 {L i : Nat} {cl : en_L} (hLv : lw_Lv Lv L) (hi : i + 7 ≤ L) (hI : pi_I i t) (hcl : lw_cl cl i) : en_ex (some Lv) (en_u 60) en_lawc (fun pc => Nat.beq pc 23) (40, cl, [.inl 11], t, n, sl) (lw_nx i n sl) := by
  obtain ⟨h0, h1, h2, h3, h4⟩ := hcl
  have hL := hLv.2.1
  refine ex_go (S := (651, cl, [], t, n, sl)) rfl (fun _ => rfl) rfl ?_
  refine gx_ld (i := 1) (d := 2) (v := gx_r 0) rfl (fun _ => rfl) h1 rfl rfl ?_
  obtain ⟨xf, tf1, tf2, rf1, rf2, gf1, If⟩ := pr_11 (n := n)  hI (by first | decide | omega)
  refine gx_callo (a := 0) rfl rfl hI.1 rfl rfl rfl rf1 rfl ?_
  show en_ex _ _ _ _ (655, cl, [.inl xf], tf1, n, sl) _
  refine gx_pop rfl rfl rfl ?_
  refine gx_ld (i := 2) (d := 2) (v := gx_r 383) rfl (fun _ => rfl) h2 rfl rfl ?_
  refine gx_callo (a := 383) rfl rfl gf1 rfl rfl rfl rf2 rfl ?_
  show en_ex _ _ _ _ (660, cl, [.inl xf], tf2, n, sl) _
  refine gx_pop rfl rfl rfl ?_
  refine ex_go (S := (1265, cl, [], tf2, n, sl)) rfl (fun _ => rfl) rfl ?_
  refine gx_incS (i := 4) (a := i) (x := 7) rfl (fun _ => rfl) h4 (by first | decide | omega) rfl (fun l1 hl1 ml1 => ?_)
  have l1_0 : en_ld l1 0 = some (.inr (.inr (.inr (.inl 2)))) := ml1 0 _ h0 rfl
  have l1_1 : en_ld l1 1 = some (gx_r 0) := ml1 1 _ h1 rfl
  have l1_2 : en_ld l1 2 = some (gx_r 383) := ml1 2 _ h2 rfl
  have l1_3 : en_ld l1 3 = some (gx_r 412) := ml1 3 _ h3 rfl
  refine ex_stop (S := (23, l1, [], tf2, n, sl)) rfl (fun _ => rfl) rfl ?_
  exact ⟨_, tf2, rfl, If, l1_0, l1_1, l1_2, l1_3, hl1⟩
theorem lw_12 {L i : Nat} {cl : en_L} (hLv : lw_Lv Lv L) (hi : i + 7 ≤ L) (hI : pi_I i t) (hcl : lw_cl cl i) : en_ex (some Lv) (en_u 60) en_lawc (fun pc => Nat.beq pc 23) (40, cl, [.inl 12], t, n, sl) (lw_nx i n sl) := by
  obtain ⟨h0, h1, h2, h3, h4⟩ := hcl
  have hL := hLv.2.1
  refine ex_go (S := (664, cl, [], t, n, sl)) rfl (fun _ => rfl) rfl ?_
  refine gx_ld (i := 1) (d := 2) (v := gx_r 0) rfl (fun _ => rfl) h1 rfl rfl ?_
  refine gx_ld (i := 0) (d := 2) (v := .inr (.inr (.inr (.inl 2)))) rfl (fun _ => rfl) h0 rfl rfl ?_
  refine gx_ld (i := 4) (d := 0) (v := .inl i) rfl (fun _ => rfl) h4 rfl rfl ?_
  refine ex_go (S := (669, cl, [.inl 1, .inl i, .inr (.inr (.inr (.inl 2))), gx_r 0], t, n, sl)) rfl (fun _ => rfl) rfl ?_
  refine ex_iadd rfl (by first | decide | omega) rfl ?_
  obtain ⟨m1, m1b, k2⟩ := hLv.2.2 (i + 1) (by first | decide | omega)
  refine gx_scr rfl k2 (by first | decide | omega) rfl ?_
  obtain ⟨xf, tf1, tf2, rf1, rf2, gf1, If⟩ := pr_12 (n := n) (x := m1) (by first | decide | omega) hI (by first | decide | omega)
  refine gx_callo (a := 0) rfl rfl hI.1 rfl rfl rfl rf1 rfl ?_
  show en_ex _ _ _ _ (674, cl, [.inl xf], tf1, n, sl) _
  refine gx_pop rfl rfl rfl ?_
  refine gx_ld (i := 2) (d := 2) (v := gx_r 383) rfl (fun _ => rfl) h2 rfl rfl ?_
  refine gx_ld (i := 0) (d := 2) (v := .inr (.inr (.inr (.inl 2)))) rfl (fun _ => rfl) h0 rfl rfl ?_
  refine gx_ld (i := 4) (d := 0) (v := .inl i) rfl (fun _ => rfl) h4 rfl rfl ?_
  refine ex_go (S := (680, cl, [.inl 1, .inl i, .inr (.inr (.inr (.inl 2))), gx_r 383], tf1, n, sl)) rfl (fun _ => rfl) rfl ?_
  refine ex_iadd rfl (by first | decide | omega) rfl ?_
  refine gx_scr rfl k2 (by first | decide | omega) rfl ?_
  refine gx_callo (a := 383) rfl rfl gf1 rfl rfl rfl rf2 rfl ?_
  show en_ex _ _ _ _ (685, cl, [.inl xf], tf2, n, sl) _
  refine gx_pop rfl rfl rfl ?_
  refine ex_go (S := (1265, cl, [], tf2, n, sl)) rfl (fun _ => rfl) rfl ?_
  refine gx_incS (i := 4) (a := i) (x := 7) rfl (fun _ => rfl) h4 (by first | decide | omega) rfl (fun l3 hl3 ml3 => ?_)
  have l3_0 : en_ld l3 0 = some (.inr (.inr (.inr (.inl 2)))) := ml3 0 _ h0 rfl
  have l3_1 : en_ld l3 1 = some (gx_r 0) := ml3 1 _ h1 rfl
  have l3_2 : en_ld l3 2 = some (gx_r 383) := ml3 2 _ h2 rfl
  have l3_3 : en_ld l3 3 = some (gx_r 412) := ml3 3 _ h3 rfl
  refine ex_stop (S := (23, l3, [], tf2, n, sl)) rfl (fun _ => rfl) rfl ?_
  exact ⟨_, tf2, rfl, If, l3_0, l3_1, l3_2, l3_3, hl3⟩
theorem lw_13 {L i : Nat} {cl : en_L} (hLv : lw_Lv Lv L) (hi : i + 7 ≤ L) (hI : pi_I i t) (hcl : lw_cl cl i) : en_ex (some Lv) (en_u 60) en_lawc (fun pc => Nat.beq pc 23) (40, cl, [.inl 13], t, n, sl) (lw_nx i n sl) := by
  obtain ⟨h0, h1, h2, h3, h4⟩ := hcl
  have hL := hLv.2.1
  refine ex_go (S := (689, cl, [], t, n, sl)) rfl (fun _ => rfl) rfl ?_
  refine gx_ld (i := 1) (d := 2) (v := gx_r 0) rfl (fun _ => rfl) h1 rfl rfl ?_
  refine gx_ld (i := 0) (d := 2) (v := .inr (.inr (.inr (.inl 2)))) rfl (fun _ => rfl) h0 rfl rfl ?_
  refine gx_ld (i := 4) (d := 0) (v := .inl i) rfl (fun _ => rfl) h4 rfl rfl ?_
  refine ex_go (S := (694, cl, [.inl 1, .inl i, .inr (.inr (.inr (.inl 2))), gx_r 0], t, n, sl)) rfl (fun _ => rfl) rfl ?_
  refine ex_iadd rfl (by first | decide | omega) rfl ?_
  obtain ⟨m1, m1b, k2⟩ := hLv.2.2 (i + 1) (by first | decide | omega)
  refine gx_scr rfl k2 (by first | decide | omega) rfl ?_
  refine gx_ld (i := 0) (d := 2) (v := .inr (.inr (.inr (.inl 2)))) rfl (fun _ => rfl) h0 rfl rfl ?_
  refine gx_ld (i := 4) (d := 0) (v := .inl i) rfl (fun _ => rfl) h4 rfl rfl ?_
  refine ex_go (S := (700, cl, [.inl 2, .inl i, .inr (.inr (.inr (.inl 2))), .inl m1, gx_r 0], t, n, sl)) rfl (fun _ => rfl) rfl ?_
  refine ex_iadd rfl (by first | decide | omega) rfl ?_
  obtain ⟨m3, m3b, k4⟩ := hLv.2.2 (i + 2) (by first | decide | omega)
  refine gx_scr rfl k4 (by first | decide | omega) rfl ?_
  obtain ⟨xf, tf1, tf2, rf1, rf2, gf1, If⟩ := pr_13 (n := n) (x := m1) (y := m3) (by first | decide | omega) (by first | decide | omega) hI (by first | decide | omega)
  refine gx_callo (a := 0) rfl rfl hI.1 rfl rfl rfl rf1 rfl ?_
  show en_ex _ _ _ _ (705, cl, [.inl xf], tf1, n, sl) _
  refine gx_pop rfl rfl rfl ?_
  refine gx_ld (i := 2) (d := 2) (v := gx_r 383) rfl (fun _ => rfl) h2 rfl rfl ?_
  refine gx_ld (i := 0) (d := 2) (v := .inr (.inr (.inr (.inl 2)))) rfl (fun _ => rfl) h0 rfl rfl ?_
  refine gx_ld (i := 4) (d := 0) (v := .inl i) rfl (fun _ => rfl) h4 rfl rfl ?_
  refine ex_go (S := (711, cl, [.inl 1, .inl i, .inr (.inr (.inr (.inl 2))), gx_r 383], tf1, n, sl)) rfl (fun _ => rfl) rfl ?_
  refine ex_iadd rfl (by first | decide | omega) rfl ?_
  refine gx_scr rfl k2 (by first | decide | omega) rfl ?_
  refine gx_ld (i := 0) (d := 2) (v := .inr (.inr (.inr (.inl 2)))) rfl (fun _ => rfl) h0 rfl rfl ?_
  refine gx_ld (i := 4) (d := 0) (v := .inl i) rfl (fun _ => rfl) h4 rfl rfl ?_
  refine ex_go (S := (717, cl, [.inl 2, .inl i, .inr (.inr (.inr (.inl 2))), .inl m1, gx_r 383], tf1, n, sl)) rfl (fun _ => rfl) rfl ?_
  refine ex_iadd rfl (by first | decide | omega) rfl ?_
  refine gx_scr rfl k4 (by first | decide | omega) rfl ?_
  refine gx_callo (a := 383) rfl rfl gf1 rfl rfl rfl rf2 rfl ?_
  show en_ex _ _ _ _ (722, cl, [.inl xf], tf2, n, sl) _
  refine gx_pop rfl rfl rfl ?_
  refine ex_go (S := (1265, cl, [], tf2, n, sl)) rfl (fun _ => rfl) rfl ?_
  refine gx_incS (i := 4) (a := i) (x := 7) rfl (fun _ => rfl) h4 (by first | decide | omega) rfl (fun l5 hl5 ml5 => ?_)
  have l5_0 : en_ld l5 0 = some (.inr (.inr (.inr (.inl 2)))) := ml5 0 _ h0 rfl
  have l5_1 : en_ld l5 1 = some (gx_r 0) := ml5 1 _ h1 rfl
  have l5_2 : en_ld l5 2 = some (gx_r 383) := ml5 2 _ h2 rfl
  have l5_3 : en_ld l5 3 = some (gx_r 412) := ml5 3 _ h3 rfl
  refine ex_stop (S := (23, l5, [], tf2, n, sl)) rfl (fun _ => rfl) rfl ?_
  exact ⟨_, tf2, rfl, If, l5_0, l5_1, l5_2, l5_3, hl5⟩
theorem lw_14 {L i : Nat} {cl : en_L} (hLv : lw_Lv Lv L) (hi : i + 7 ≤ L) (hI : pi_I i t) (hcl : lw_cl cl i) : en_ex (some Lv) (en_u 60) en_lawc (fun pc => Nat.beq pc 23) (40, cl, [.inl 14], t, n, sl) (lw_nx i n sl) := by
  obtain ⟨h0, h1, h2, h3, h4⟩ := hcl
  have hL := hLv.2.1
  refine ex_go (S := (726, cl, [], t, n, sl)) rfl (fun _ => rfl) rfl ?_
  refine gx_ld (i := 1) (d := 2) (v := gx_r 0) rfl (fun _ => rfl) h1 rfl rfl ?_
  refine gx_ld (i := 0) (d := 2) (v := .inr (.inr (.inr (.inl 2)))) rfl (fun _ => rfl) h0 rfl rfl ?_
  refine gx_ld (i := 4) (d := 0) (v := .inl i) rfl (fun _ => rfl) h4 rfl rfl ?_
  refine ex_go (S := (731, cl, [.inl 1, .inl i, .inr (.inr (.inr (.inl 2))), gx_r 0], t, n, sl)) rfl (fun _ => rfl) rfl ?_
  refine ex_iadd rfl (by first | decide | omega) rfl ?_
  obtain ⟨m1, m1b, k2⟩ := hLv.2.2 (i + 1) (by first | decide | omega)
  refine gx_scr rfl k2 (by first | decide | omega) rfl ?_
  refine gx_ld (i := 0) (d := 2) (v := .inr (.inr (.inr (.inl 2)))) rfl (fun _ => rfl) h0 rfl rfl ?_
  refine gx_ld (i := 4) (d := 0) (v := .inl i) rfl (fun _ => rfl) h4 rfl rfl ?_
  refine ex_go (S := (737, cl, [.inl 2, .inl i, .inr (.inr (.inr (.inl 2))), .inl m1, gx_r 0], t, n, sl)) rfl (fun _ => rfl) rfl ?_
  refine ex_iadd rfl (by first | decide | omega) rfl ?_
  obtain ⟨m3, m3b, k4⟩ := hLv.2.2 (i + 2) (by first | decide | omega)
  refine gx_scr rfl k4 (by first | decide | omega) rfl ?_
  obtain ⟨xf, tf1, tf2, rf1, rf2, gf1, If⟩ := pr_14 (n := n) (x := m1) (y := m3) (by first | decide | omega) (by first | decide | omega) hI (by first | decide | omega)
  refine gx_callo (a := 0) rfl rfl hI.1 rfl rfl rfl rf1 rfl ?_
  show en_ex _ _ _ _ (742, cl, [.inl xf], tf1, n, sl) _
  refine gx_pop rfl rfl rfl ?_
  refine gx_ld (i := 2) (d := 2) (v := gx_r 383) rfl (fun _ => rfl) h2 rfl rfl ?_
  refine gx_ld (i := 0) (d := 2) (v := .inr (.inr (.inr (.inl 2)))) rfl (fun _ => rfl) h0 rfl rfl ?_
  refine gx_ld (i := 4) (d := 0) (v := .inl i) rfl (fun _ => rfl) h4 rfl rfl ?_
  refine ex_go (S := (748, cl, [.inl 1, .inl i, .inr (.inr (.inr (.inl 2))), gx_r 383], tf1, n, sl)) rfl (fun _ => rfl) rfl ?_
  refine ex_iadd rfl (by first | decide | omega) rfl ?_
  refine gx_scr rfl k2 (by first | decide | omega) rfl ?_
  refine gx_ld (i := 0) (d := 2) (v := .inr (.inr (.inr (.inl 2)))) rfl (fun _ => rfl) h0 rfl rfl ?_
  refine gx_ld (i := 4) (d := 0) (v := .inl i) rfl (fun _ => rfl) h4 rfl rfl ?_
  refine ex_go (S := (754, cl, [.inl 2, .inl i, .inr (.inr (.inr (.inl 2))), .inl m1, gx_r 383], tf1, n, sl)) rfl (fun _ => rfl) rfl ?_
  refine ex_iadd rfl (by first | decide | omega) rfl ?_
  refine gx_scr rfl k4 (by first | decide | omega) rfl ?_
  refine gx_callo (a := 383) rfl rfl gf1 rfl rfl rfl rf2 rfl ?_
  show en_ex _ _ _ _ (759, cl, [.inl xf], tf2, n, sl) _
  refine gx_pop rfl rfl rfl ?_
  refine ex_go (S := (1265, cl, [], tf2, n, sl)) rfl (fun _ => rfl) rfl ?_
  refine gx_incS (i := 4) (a := i) (x := 7) rfl (fun _ => rfl) h4 (by first | decide | omega) rfl (fun l5 hl5 ml5 => ?_)
  have l5_0 : en_ld l5 0 = some (.inr (.inr (.inr (.inl 2)))) := ml5 0 _ h0 rfl
  have l5_1 : en_ld l5 1 = some (gx_r 0) := ml5 1 _ h1 rfl
  have l5_2 : en_ld l5 2 = some (gx_r 383) := ml5 2 _ h2 rfl
  have l5_3 : en_ld l5 3 = some (gx_r 412) := ml5 3 _ h3 rfl
  refine ex_stop (S := (23, l5, [], tf2, n, sl)) rfl (fun _ => rfl) rfl ?_
  exact ⟨_, tf2, rfl, If, l5_0, l5_1, l5_2, l5_3, hl5⟩
theorem lw_15 {L i : Nat} {cl : en_L} (hLv : lw_Lv Lv L) (hi : i + 7 ≤ L) (hI : pi_I i t) (hcl : lw_cl cl i) : en_ex (some Lv) (en_u 60) en_lawc (fun pc => Nat.beq pc 23) (40, cl, [.inl 15], t, n, sl) (lw_nx i n sl) := by
  obtain ⟨h0, h1, h2, h3, h4⟩ := hcl
  have hL := hLv.2.1
  refine ex_go (S := (763, cl, [], t, n, sl)) rfl (fun _ => rfl) rfl ?_
  refine gx_ld (i := 1) (d := 2) (v := gx_r 0) rfl (fun _ => rfl) h1 rfl rfl ?_
  refine gx_ld (i := 0) (d := 2) (v := .inr (.inr (.inr (.inl 2)))) rfl (fun _ => rfl) h0 rfl rfl ?_
  refine gx_ld (i := 4) (d := 0) (v := .inl i) rfl (fun _ => rfl) h4 rfl rfl ?_
  refine ex_go (S := (768, cl, [.inl 1, .inl i, .inr (.inr (.inr (.inl 2))), gx_r 0], t, n, sl)) rfl (fun _ => rfl) rfl ?_
  refine ex_iadd rfl (by first | decide | omega) rfl ?_
  obtain ⟨m1, m1b, k2⟩ := hLv.2.2 (i + 1) (by first | decide | omega)
  refine gx_scr rfl k2 (by first | decide | omega) rfl ?_
  refine gx_ld (i := 0) (d := 2) (v := .inr (.inr (.inr (.inl 2)))) rfl (fun _ => rfl) h0 rfl rfl ?_
  refine gx_ld (i := 4) (d := 0) (v := .inl i) rfl (fun _ => rfl) h4 rfl rfl ?_
  refine ex_go (S := (774, cl, [.inl 2, .inl i, .inr (.inr (.inr (.inl 2))), .inl m1, gx_r 0], t, n, sl)) rfl (fun _ => rfl) rfl ?_
  refine ex_iadd rfl (by first | decide | omega) rfl ?_
  obtain ⟨m3, m3b, k4⟩ := hLv.2.2 (i + 2) (by first | decide | omega)
  refine gx_scr rfl k4 (by first | decide | omega) rfl ?_
  refine gx_ld (i := 0) (d := 2) (v := .inr (.inr (.inr (.inl 2)))) rfl (fun _ => rfl) h0 rfl rfl ?_
  refine gx_ld (i := 4) (d := 0) (v := .inl i) rfl (fun _ => rfl) h4 rfl rfl ?_
  refine ex_go (S := (780, cl, [.inl 3, .inl i, .inr (.inr (.inr (.inl 2))), .inl m3, .inl m1, gx_r 0], t, n, sl)) rfl (fun _ => rfl) rfl ?_
  refine ex_iadd rfl (by first | decide | omega) rfl ?_
  obtain ⟨m5, m5b, k6⟩ := hLv.2.2 (i + 3) (by first | decide | omega)
  refine gx_scr rfl k6 (by first | decide | omega) rfl ?_
  obtain ⟨xf, tf1, tf2, rf1, rf2, gf1, If⟩ := pr_15 (n := n) (x := m1) (y := m3) (z := m5) (by first | decide | omega) (by first | decide | omega) (by first | decide | omega) hI (by first | decide | omega)
  refine gx_callo (a := 0) rfl rfl hI.1 rfl rfl rfl rf1 rfl ?_
  show en_ex _ _ _ _ (785, cl, [.inl xf], tf1, n, sl) _
  refine gx_pop rfl rfl rfl ?_
  refine gx_ld (i := 2) (d := 2) (v := gx_r 383) rfl (fun _ => rfl) h2 rfl rfl ?_
  refine gx_ld (i := 0) (d := 2) (v := .inr (.inr (.inr (.inl 2)))) rfl (fun _ => rfl) h0 rfl rfl ?_
  refine gx_ld (i := 4) (d := 0) (v := .inl i) rfl (fun _ => rfl) h4 rfl rfl ?_
  refine ex_go (S := (791, cl, [.inl 1, .inl i, .inr (.inr (.inr (.inl 2))), gx_r 383], tf1, n, sl)) rfl (fun _ => rfl) rfl ?_
  refine ex_iadd rfl (by first | decide | omega) rfl ?_
  refine gx_scr rfl k2 (by first | decide | omega) rfl ?_
  refine gx_ld (i := 0) (d := 2) (v := .inr (.inr (.inr (.inl 2)))) rfl (fun _ => rfl) h0 rfl rfl ?_
  refine gx_ld (i := 4) (d := 0) (v := .inl i) rfl (fun _ => rfl) h4 rfl rfl ?_
  refine ex_go (S := (797, cl, [.inl 2, .inl i, .inr (.inr (.inr (.inl 2))), .inl m1, gx_r 383], tf1, n, sl)) rfl (fun _ => rfl) rfl ?_
  refine ex_iadd rfl (by first | decide | omega) rfl ?_
  refine gx_scr rfl k4 (by first | decide | omega) rfl ?_
  refine gx_ld (i := 0) (d := 2) (v := .inr (.inr (.inr (.inl 2)))) rfl (fun _ => rfl) h0 rfl rfl ?_
  refine gx_ld (i := 4) (d := 0) (v := .inl i) rfl (fun _ => rfl) h4 rfl rfl ?_
  refine ex_go (S := (803, cl, [.inl 3, .inl i, .inr (.inr (.inr (.inl 2))), .inl m3, .inl m1, gx_r 383], tf1, n, sl)) rfl (fun _ => rfl) rfl ?_
  refine ex_iadd rfl (by first | decide | omega) rfl ?_
  refine gx_scr rfl k6 (by first | decide | omega) rfl ?_
  refine gx_callo (a := 383) rfl rfl gf1 rfl rfl rfl rf2 rfl ?_
  show en_ex _ _ _ _ (808, cl, [.inl xf], tf2, n, sl) _
  refine gx_pop rfl rfl rfl ?_
  refine ex_go (S := (1265, cl, [], tf2, n, sl)) rfl (fun _ => rfl) rfl ?_
  refine gx_incS (i := 4) (a := i) (x := 7) rfl (fun _ => rfl) h4 (by first | decide | omega) rfl (fun l7 hl7 ml7 => ?_)
  have l7_0 : en_ld l7 0 = some (.inr (.inr (.inr (.inl 2)))) := ml7 0 _ h0 rfl
  have l7_1 : en_ld l7 1 = some (gx_r 0) := ml7 1 _ h1 rfl
  have l7_2 : en_ld l7 2 = some (gx_r 383) := ml7 2 _ h2 rfl
  have l7_3 : en_ld l7 3 = some (gx_r 412) := ml7 3 _ h3 rfl
  refine ex_stop (S := (23, l7, [], tf2, n, sl)) rfl (fun _ => rfl) rfl ?_
  exact ⟨_, tf2, rfl, If, l7_0, l7_1, l7_2, l7_3, hl7⟩
theorem lw_16 {L i : Nat} {cl : en_L} (hLv : lw_Lv Lv L) (hi : i + 7 ≤ L) (hI : pi_I i t) (hcl : lw_cl cl i) : en_ex (some Lv) (en_u 60) en_lawc (fun pc => Nat.beq pc 23) (40, cl, [.inl 16], t, n, sl) (lw_nx i n sl) := by
  obtain ⟨h0, h1, h2, h3, h4⟩ := hcl
  have hL := hLv.2.1
  refine ex_go (S := (812, cl, [], t, n, sl)) rfl (fun _ => rfl) rfl ?_
  refine gx_ld (i := 1) (d := 2) (v := gx_r 0) rfl (fun _ => rfl) h1 rfl rfl ?_
  refine gx_ld (i := 0) (d := 2) (v := .inr (.inr (.inr (.inl 2)))) rfl (fun _ => rfl) h0 rfl rfl ?_
  refine gx_ld (i := 4) (d := 0) (v := .inl i) rfl (fun _ => rfl) h4 rfl rfl ?_
  refine ex_go (S := (817, cl, [.inl 1, .inl i, .inr (.inr (.inr (.inl 2))), gx_r 0], t, n, sl)) rfl (fun _ => rfl) rfl ?_
  refine ex_iadd rfl (by first | decide | omega) rfl ?_
  obtain ⟨m1, m1b, k2⟩ := hLv.2.2 (i + 1) (by first | decide | omega)
  refine gx_scr rfl k2 (by first | decide | omega) rfl ?_
  refine gx_ld (i := 0) (d := 2) (v := .inr (.inr (.inr (.inl 2)))) rfl (fun _ => rfl) h0 rfl rfl ?_
  refine gx_ld (i := 4) (d := 0) (v := .inl i) rfl (fun _ => rfl) h4 rfl rfl ?_
  refine ex_go (S := (823, cl, [.inl 2, .inl i, .inr (.inr (.inr (.inl 2))), .inl m1, gx_r 0], t, n, sl)) rfl (fun _ => rfl) rfl ?_
  refine ex_iadd rfl (by first | decide | omega) rfl ?_
  obtain ⟨m3, m3b, k4⟩ := hLv.2.2 (i + 2) (by first | decide | omega)
  refine gx_scr rfl k4 (by first | decide | omega) rfl ?_
  obtain ⟨xf, tf1, tf2, rf1, rf2, gf1, If⟩ := pr_16 (n := n) (x := m1) (y := m3) (by first | decide | omega) (by first | decide | omega) hI (by first | decide | omega)
  refine gx_callo (a := 0) rfl rfl hI.1 rfl rfl rfl rf1 rfl ?_
  show en_ex _ _ _ _ (828, cl, [.inl xf], tf1, n, sl) _
  refine gx_pop rfl rfl rfl ?_
  refine gx_ld (i := 2) (d := 2) (v := gx_r 383) rfl (fun _ => rfl) h2 rfl rfl ?_
  refine gx_ld (i := 0) (d := 2) (v := .inr (.inr (.inr (.inl 2)))) rfl (fun _ => rfl) h0 rfl rfl ?_
  refine gx_ld (i := 4) (d := 0) (v := .inl i) rfl (fun _ => rfl) h4 rfl rfl ?_
  refine ex_go (S := (834, cl, [.inl 1, .inl i, .inr (.inr (.inr (.inl 2))), gx_r 383], tf1, n, sl)) rfl (fun _ => rfl) rfl ?_
  refine ex_iadd rfl (by first | decide | omega) rfl ?_
  refine gx_scr rfl k2 (by first | decide | omega) rfl ?_
  refine gx_ld (i := 0) (d := 2) (v := .inr (.inr (.inr (.inl 2)))) rfl (fun _ => rfl) h0 rfl rfl ?_
  refine gx_ld (i := 4) (d := 0) (v := .inl i) rfl (fun _ => rfl) h4 rfl rfl ?_
  refine ex_go (S := (840, cl, [.inl 2, .inl i, .inr (.inr (.inr (.inl 2))), .inl m1, gx_r 383], tf1, n, sl)) rfl (fun _ => rfl) rfl ?_
  refine ex_iadd rfl (by first | decide | omega) rfl ?_
  refine gx_scr rfl k4 (by first | decide | omega) rfl ?_
  refine gx_callo (a := 383) rfl rfl gf1 rfl rfl rfl rf2 rfl ?_
  show en_ex _ _ _ _ (845, cl, [.inl xf], tf2, n, sl) _
  refine gx_pop rfl rfl rfl ?_
  refine ex_go (S := (1265, cl, [], tf2, n, sl)) rfl (fun _ => rfl) rfl ?_
  refine gx_incS (i := 4) (a := i) (x := 7) rfl (fun _ => rfl) h4 (by first | decide | omega) rfl (fun l5 hl5 ml5 => ?_)
  have l5_0 : en_ld l5 0 = some (.inr (.inr (.inr (.inl 2)))) := ml5 0 _ h0 rfl
  have l5_1 : en_ld l5 1 = some (gx_r 0) := ml5 1 _ h1 rfl
  have l5_2 : en_ld l5 2 = some (gx_r 383) := ml5 2 _ h2 rfl
  have l5_3 : en_ld l5 3 = some (gx_r 412) := ml5 3 _ h3 rfl
  refine ex_stop (S := (23, l5, [], tf2, n, sl)) rfl (fun _ => rfl) rfl ?_
  exact ⟨_, tf2, rfl, If, l5_0, l5_1, l5_2, l5_3, hl5⟩
theorem lw_17 {L i : Nat} {cl : en_L} (hLv : lw_Lv Lv L) (hi : i + 7 ≤ L) (hI : pi_I i t) (hcl : lw_cl cl i) : en_ex (some Lv) (en_u 60) en_lawc (fun pc => Nat.beq pc 23) (40, cl, [.inl 17], t, n, sl) (lw_nx i n sl) := by
  obtain ⟨h0, h1, h2, h3, h4⟩ := hcl
  have hL := hLv.2.1
  refine ex_go (S := (849, cl, [], t, n, sl)) rfl (fun _ => rfl) rfl ?_
  refine gx_ld (i := 1) (d := 2) (v := gx_r 0) rfl (fun _ => rfl) h1 rfl rfl ?_
  refine gx_ld (i := 0) (d := 2) (v := .inr (.inr (.inr (.inl 2)))) rfl (fun _ => rfl) h0 rfl rfl ?_
  refine gx_ld (i := 4) (d := 0) (v := .inl i) rfl (fun _ => rfl) h4 rfl rfl ?_
  refine ex_go (S := (854, cl, [.inl 1, .inl i, .inr (.inr (.inr (.inl 2))), gx_r 0], t, n, sl)) rfl (fun _ => rfl) rfl ?_
  refine ex_iadd rfl (by first | decide | omega) rfl ?_
  obtain ⟨m1, m1b, k2⟩ := hLv.2.2 (i + 1) (by first | decide | omega)
  refine gx_scr rfl k2 (by first | decide | omega) rfl ?_
  refine gx_ld (i := 0) (d := 2) (v := .inr (.inr (.inr (.inl 2)))) rfl (fun _ => rfl) h0 rfl rfl ?_
  refine gx_ld (i := 4) (d := 0) (v := .inl i) rfl (fun _ => rfl) h4 rfl rfl ?_
  refine ex_go (S := (860, cl, [.inl 2, .inl i, .inr (.inr (.inr (.inl 2))), .inl m1, gx_r 0], t, n, sl)) rfl (fun _ => rfl) rfl ?_
  refine ex_iadd rfl (by first | decide | omega) rfl ?_
  obtain ⟨m3, m3b, k4⟩ := hLv.2.2 (i + 2) (by first | decide | omega)
  refine gx_scr rfl k4 (by first | decide | omega) rfl ?_
  refine gx_ld (i := 0) (d := 2) (v := .inr (.inr (.inr (.inl 2)))) rfl (fun _ => rfl) h0 rfl rfl ?_
  refine gx_ld (i := 4) (d := 0) (v := .inl i) rfl (fun _ => rfl) h4 rfl rfl ?_
  refine ex_go (S := (866, cl, [.inl 3, .inl i, .inr (.inr (.inr (.inl 2))), .inl m3, .inl m1, gx_r 0], t, n, sl)) rfl (fun _ => rfl) rfl ?_
  refine ex_iadd rfl (by first | decide | omega) rfl ?_
  obtain ⟨m5, m5b, k6⟩ := hLv.2.2 (i + 3) (by first | decide | omega)
  refine gx_scr rfl k6 (by first | decide | omega) rfl ?_
  obtain ⟨xf, tf1, tf2, rf1, rf2, gf1, If⟩ := pr_17 (n := n) (x := m1) (y := m3) (z := m5) (by first | decide | omega) (by first | decide | omega) (by first | decide | omega) hI (by first | decide | omega)
  refine gx_callo (a := 0) rfl rfl hI.1 rfl rfl rfl rf1 rfl ?_
  show en_ex _ _ _ _ (871, cl, [.inl xf], tf1, n, sl) _
  refine gx_pop rfl rfl rfl ?_
  refine gx_ld (i := 2) (d := 2) (v := gx_r 383) rfl (fun _ => rfl) h2 rfl rfl ?_
  refine gx_ld (i := 0) (d := 2) (v := .inr (.inr (.inr (.inl 2)))) rfl (fun _ => rfl) h0 rfl rfl ?_
  refine gx_ld (i := 4) (d := 0) (v := .inl i) rfl (fun _ => rfl) h4 rfl rfl ?_
  refine ex_go (S := (877, cl, [.inl 1, .inl i, .inr (.inr (.inr (.inl 2))), gx_r 383], tf1, n, sl)) rfl (fun _ => rfl) rfl ?_
  refine ex_iadd rfl (by first | decide | omega) rfl ?_
  refine gx_scr rfl k2 (by first | decide | omega) rfl ?_
  refine gx_ld (i := 0) (d := 2) (v := .inr (.inr (.inr (.inl 2)))) rfl (fun _ => rfl) h0 rfl rfl ?_
  refine gx_ld (i := 4) (d := 0) (v := .inl i) rfl (fun _ => rfl) h4 rfl rfl ?_
  refine ex_go (S := (883, cl, [.inl 2, .inl i, .inr (.inr (.inr (.inl 2))), .inl m1, gx_r 383], tf1, n, sl)) rfl (fun _ => rfl) rfl ?_
  refine ex_iadd rfl (by first | decide | omega) rfl ?_
  refine gx_scr rfl k4 (by first | decide | omega) rfl ?_
  refine gx_ld (i := 0) (d := 2) (v := .inr (.inr (.inr (.inl 2)))) rfl (fun _ => rfl) h0 rfl rfl ?_
  refine gx_ld (i := 4) (d := 0) (v := .inl i) rfl (fun _ => rfl) h4 rfl rfl ?_
  refine ex_go (S := (889, cl, [.inl 3, .inl i, .inr (.inr (.inr (.inl 2))), .inl m3, .inl m1, gx_r 383], tf1, n, sl)) rfl (fun _ => rfl) rfl ?_
  refine ex_iadd rfl (by first | decide | omega) rfl ?_
  refine gx_scr rfl k6 (by first | decide | omega) rfl ?_
  refine gx_callo (a := 383) rfl rfl gf1 rfl rfl rfl rf2 rfl ?_
  show en_ex _ _ _ _ (894, cl, [.inl xf], tf2, n, sl) _
  refine gx_pop rfl rfl rfl ?_
  refine ex_go (S := (1265, cl, [], tf2, n, sl)) rfl (fun _ => rfl) rfl ?_
  refine gx_incS (i := 4) (a := i) (x := 7) rfl (fun _ => rfl) h4 (by first | decide | omega) rfl (fun l7 hl7 ml7 => ?_)
  have l7_0 : en_ld l7 0 = some (.inr (.inr (.inr (.inl 2)))) := ml7 0 _ h0 rfl
  have l7_1 : en_ld l7 1 = some (gx_r 0) := ml7 1 _ h1 rfl
  have l7_2 : en_ld l7 2 = some (gx_r 383) := ml7 2 _ h2 rfl
  have l7_3 : en_ld l7 3 = some (gx_r 412) := ml7 3 _ h3 rfl
  refine ex_stop (S := (23, l7, [], tf2, n, sl)) rfl (fun _ => rfl) rfl ?_
  exact ⟨_, tf2, rfl, If, l7_0, l7_1, l7_2, l7_3, hl7⟩
theorem lw_18 {L i : Nat} {cl : en_L} (hLv : lw_Lv Lv L) (hi : i + 7 ≤ L) (hI : pi_I i t) (hcl : lw_cl cl i) : en_ex (some Lv) (en_u 60) en_lawc (fun pc => Nat.beq pc 23) (40, cl, [.inl 18], t, n, sl) (lw_nx i n sl) := by
  obtain ⟨h0, h1, h2, h3, h4⟩ := hcl
  have hL := hLv.2.1
  refine ex_go (S := (898, cl, [], t, n, sl)) rfl (fun _ => rfl) rfl ?_
  refine gx_ld (i := 1) (d := 2) (v := gx_r 0) rfl (fun _ => rfl) h1 rfl rfl ?_
  obtain ⟨v1, tf1, v2, tf2, rf1, rf2, c1, c2, gf1, If⟩ := pr_18 (n := n)  hI
  refine gx_callo (a := 0) rfl rfl hI.1 rfl rfl rfl rf1 rfl ?_
  show en_ex _ _ _ _ (902, cl, [v1], tf1, n, sl) _
  refine gx_pop2 rfl c1 rfl ?_
  refine gx_ld (i := 2) (d := 2) (v := gx_r 383) rfl (fun _ => rfl) h2 rfl rfl ?_
  refine gx_callo (a := 383) rfl rfl gf1 rfl rfl rfl rf2 rfl ?_
  show en_ex _ _ _ _ (907, cl, [v2], tf2, n, sl) _
  refine gx_pop2 rfl c2 rfl ?_
  refine ex_go (S := (1265, cl, [], tf2, n, sl)) rfl (fun _ => rfl) rfl ?_
  refine gx_incS (i := 4) (a := i) (x := 7) rfl (fun _ => rfl) h4 (by first | decide | omega) rfl (fun l1 hl1 ml1 => ?_)
  have l1_0 : en_ld l1 0 = some (.inr (.inr (.inr (.inl 2)))) := ml1 0 _ h0 rfl
  have l1_1 : en_ld l1 1 = some (gx_r 0) := ml1 1 _ h1 rfl
  have l1_2 : en_ld l1 2 = some (gx_r 383) := ml1 2 _ h2 rfl
  have l1_3 : en_ld l1 3 = some (gx_r 412) := ml1 3 _ h3 rfl
  refine ex_stop (S := (23, l1, [], tf2, n, sl)) rfl (fun _ => rfl) rfl ?_
  exact ⟨_, tf2, rfl, If, l1_0, l1_1, l1_2, l1_3, hl1⟩
theorem lw_19 {L i : Nat} {cl : en_L} (hLv : lw_Lv Lv L) (hi : i + 7 ≤ L) (hI : pi_I i t) (hcl : lw_cl cl i) : en_ex (some Lv) (en_u 60) en_lawc (fun pc => Nat.beq pc 23) (40, cl, [.inl 19], t, n, sl) (lw_nx i n sl) := by
  obtain ⟨h0, h1, h2, h3, h4⟩ := hcl
  have hL := hLv.2.1
  refine ex_go (S := (911, cl, [], t, n, sl)) rfl (fun _ => rfl) rfl ?_
  refine gx_ld (i := 1) (d := 2) (v := gx_r 0) rfl (fun _ => rfl) h1 rfl rfl ?_
  obtain ⟨v1, tf1, v2, tf2, rf1, rf2, c1, c2, gf1, If⟩ := pr_19 (n := n)  hI
  refine gx_callo (a := 0) rfl rfl hI.1 rfl rfl rfl rf1 rfl ?_
  show en_ex _ _ _ _ (915, cl, [v1], tf1, n, sl) _
  refine gx_pop rfl c1 rfl ?_
  refine gx_ld (i := 2) (d := 2) (v := gx_r 383) rfl (fun _ => rfl) h2 rfl rfl ?_
  refine gx_callo (a := 383) rfl rfl gf1 rfl rfl rfl rf2 rfl ?_
  show en_ex _ _ _ _ (920, cl, [v2], tf2, n, sl) _
  refine gx_pop rfl c2 rfl ?_
  refine ex_go (S := (1265, cl, [], tf2, n, sl)) rfl (fun _ => rfl) rfl ?_
  refine gx_incS (i := 4) (a := i) (x := 7) rfl (fun _ => rfl) h4 (by first | decide | omega) rfl (fun l1 hl1 ml1 => ?_)
  have l1_0 : en_ld l1 0 = some (.inr (.inr (.inr (.inl 2)))) := ml1 0 _ h0 rfl
  have l1_1 : en_ld l1 1 = some (gx_r 0) := ml1 1 _ h1 rfl
  have l1_2 : en_ld l1 2 = some (gx_r 383) := ml1 2 _ h2 rfl
  have l1_3 : en_ld l1 3 = some (gx_r 412) := ml1 3 _ h3 rfl
  refine ex_stop (S := (23, l1, [], tf2, n, sl)) rfl (fun _ => rfl) rfl ?_
  exact ⟨_, tf2, rfl, If, l1_0, l1_1, l1_2, l1_3, hl1⟩
theorem lw_20 {L i : Nat} {cl : en_L} (hLv : lw_Lv Lv L) (hi : i + 7 ≤ L) (hI : pi_I i t) (hcl : lw_cl cl i) : en_ex (some Lv) (en_u 60) en_lawc (fun pc => Nat.beq pc 23) (40, cl, [.inl 20], t, n, sl) (lw_nx i n sl) := by
  obtain ⟨h0, h1, h2, h3, h4⟩ := hcl
  have hL := hLv.2.1
  refine ex_go (S := (924, cl, [], t, n, sl)) rfl (fun _ => rfl) rfl ?_
  refine gx_ld (i := 1) (d := 2) (v := gx_r 0) rfl (fun _ => rfl) h1 rfl rfl ?_
  refine gx_ld (i := 0) (d := 2) (v := .inr (.inr (.inr (.inl 2)))) rfl (fun _ => rfl) h0 rfl rfl ?_
  refine gx_ld (i := 4) (d := 0) (v := .inl i) rfl (fun _ => rfl) h4 rfl rfl ?_
  refine ex_go (S := (929, cl, [.inl 1, .inl i, .inr (.inr (.inr (.inl 2))), gx_r 0], t, n, sl)) rfl (fun _ => rfl) rfl ?_
  refine ex_iadd rfl (by first | decide | omega) rfl ?_
  obtain ⟨m1, m1b, k2⟩ := hLv.2.2 (i + 1) (by first | decide | omega)
  refine gx_scr rfl k2 (by first | decide | omega) rfl ?_
  obtain ⟨xf, tf1, tf2, rf1, rf2, gf1, If⟩ := pr_20 (n := n) (x := m1) (by first | decide | omega) hI (by first | decide | omega)
  refine gx_callo (a := 0) rfl rfl hI.1 rfl rfl rfl rf1 rfl ?_
  show en_ex _ _ _ _ (934, cl, [.inl xf], tf1, n, sl) _
  refine gx_pop rfl rfl rfl ?_
  refine gx_ld (i := 2) (d := 2) (v := gx_r 383) rfl (fun _ => rfl) h2 rfl rfl ?_
  refine gx_ld (i := 0) (d := 2) (v := .inr (.inr (.inr (.inl 2)))) rfl (fun _ => rfl) h0 rfl rfl ?_
  refine gx_ld (i := 4) (d := 0) (v := .inl i) rfl (fun _ => rfl) h4 rfl rfl ?_
  refine ex_go (S := (940, cl, [.inl 1, .inl i, .inr (.inr (.inr (.inl 2))), gx_r 383], tf1, n, sl)) rfl (fun _ => rfl) rfl ?_
  refine ex_iadd rfl (by first | decide | omega) rfl ?_
  refine gx_scr rfl k2 (by first | decide | omega) rfl ?_
  refine gx_callo (a := 383) rfl rfl gf1 rfl rfl rfl rf2 rfl ?_
  show en_ex _ _ _ _ (945, cl, [.inl xf], tf2, n, sl) _
  refine gx_pop rfl rfl rfl ?_
  refine ex_go (S := (1265, cl, [], tf2, n, sl)) rfl (fun _ => rfl) rfl ?_
  refine gx_incS (i := 4) (a := i) (x := 7) rfl (fun _ => rfl) h4 (by first | decide | omega) rfl (fun l3 hl3 ml3 => ?_)
  have l3_0 : en_ld l3 0 = some (.inr (.inr (.inr (.inl 2)))) := ml3 0 _ h0 rfl
  have l3_1 : en_ld l3 1 = some (gx_r 0) := ml3 1 _ h1 rfl
  have l3_2 : en_ld l3 2 = some (gx_r 383) := ml3 2 _ h2 rfl
  have l3_3 : en_ld l3 3 = some (gx_r 412) := ml3 3 _ h3 rfl
  refine ex_stop (S := (23, l3, [], tf2, n, sl)) rfl (fun _ => rfl) rfl ?_
  exact ⟨_, tf2, rfl, If, l3_0, l3_1, l3_2, l3_3, hl3⟩
theorem lw_22 {L i : Nat} {cl : en_L} (hLv : lw_Lv Lv L) (hi : i + 7 ≤ L) (hI : pi_I i t) (hcl : lw_cl cl i) : en_ex (some Lv) (en_u 60) en_lawc (fun pc => Nat.beq pc 23) (40, cl, [.inl 22], t, n, sl) (lw_nx i n sl) := by
  obtain ⟨h0, h1, h2, h3, h4⟩ := hcl
  have hL := hLv.2.1
  refine ex_go (S := (965, cl, [], t, n, sl)) rfl (fun _ => rfl) rfl ?_
  refine gx_ld (i := 1) (d := 2) (v := gx_r 0) rfl (fun _ => rfl) h1 rfl rfl ?_
  refine gx_ld (i := 0) (d := 2) (v := .inr (.inr (.inr (.inl 2)))) rfl (fun _ => rfl) h0 rfl rfl ?_
  refine gx_ld (i := 4) (d := 0) (v := .inl i) rfl (fun _ => rfl) h4 rfl rfl ?_
  refine ex_go (S := (970, cl, [.inl 1, .inl i, .inr (.inr (.inr (.inl 2))), gx_r 0], t, n, sl)) rfl (fun _ => rfl) rfl ?_
  refine ex_iadd rfl (by first | decide | omega) rfl ?_
  obtain ⟨m1, m1b, k2⟩ := hLv.2.2 (i + 1) (by first | decide | omega)
  refine gx_scr rfl k2 (by first | decide | omega) rfl ?_
  refine gx_ld (i := 0) (d := 2) (v := .inr (.inr (.inr (.inl 2)))) rfl (fun _ => rfl) h0 rfl rfl ?_
  refine gx_ld (i := 4) (d := 0) (v := .inl i) rfl (fun _ => rfl) h4 rfl rfl ?_
  refine ex_go (S := (976, cl, [.inl 2, .inl i, .inr (.inr (.inr (.inl 2))), .inl m1, gx_r 0], t, n, sl)) rfl (fun _ => rfl) rfl ?_
  refine ex_iadd rfl (by first | decide | omega) rfl ?_
  obtain ⟨m3, m3b, k4⟩ := hLv.2.2 (i + 2) (by first | decide | omega)
  refine gx_scr rfl k4 (by first | decide | omega) rfl ?_
  obtain ⟨xf, tf1, tf2, rf1, rf2, gf1, If⟩ := pr_22 (n := n) (x := m1) (y := m3) (by first | decide | omega) (by first | decide | omega) hI
  refine gx_callo (a := 0) rfl rfl hI.1 rfl rfl rfl rf1 rfl ?_
  show en_ex _ _ _ _ (981, cl, [.inl xf], tf1, n, sl) _
  refine gx_pop rfl rfl rfl ?_
  refine gx_ld (i := 2) (d := 2) (v := gx_r 383) rfl (fun _ => rfl) h2 rfl rfl ?_
  refine gx_ld (i := 0) (d := 2) (v := .inr (.inr (.inr (.inl 2)))) rfl (fun _ => rfl) h0 rfl rfl ?_
  refine gx_ld (i := 4) (d := 0) (v := .inl i) rfl (fun _ => rfl) h4 rfl rfl ?_
  refine ex_go (S := (987, cl, [.inl 1, .inl i, .inr (.inr (.inr (.inl 2))), gx_r 383], tf1, n, sl)) rfl (fun _ => rfl) rfl ?_
  refine ex_iadd rfl (by first | decide | omega) rfl ?_
  refine gx_scr rfl k2 (by first | decide | omega) rfl ?_
  refine gx_ld (i := 0) (d := 2) (v := .inr (.inr (.inr (.inl 2)))) rfl (fun _ => rfl) h0 rfl rfl ?_
  refine gx_ld (i := 4) (d := 0) (v := .inl i) rfl (fun _ => rfl) h4 rfl rfl ?_
  refine ex_go (S := (993, cl, [.inl 2, .inl i, .inr (.inr (.inr (.inl 2))), .inl m1, gx_r 383], tf1, n, sl)) rfl (fun _ => rfl) rfl ?_
  refine ex_iadd rfl (by first | decide | omega) rfl ?_
  refine gx_scr rfl k4 (by first | decide | omega) rfl ?_
  refine gx_callo (a := 383) rfl rfl gf1 rfl rfl rfl rf2 rfl ?_
  show en_ex _ _ _ _ (998, cl, [.inl xf], tf2, n, sl) _
  refine gx_pop rfl rfl rfl ?_
  refine ex_go (S := (1265, cl, [], tf2, n, sl)) rfl (fun _ => rfl) rfl ?_
  refine gx_incS (i := 4) (a := i) (x := 7) rfl (fun _ => rfl) h4 (by first | decide | omega) rfl (fun l5 hl5 ml5 => ?_)
  have l5_0 : en_ld l5 0 = some (.inr (.inr (.inr (.inl 2)))) := ml5 0 _ h0 rfl
  have l5_1 : en_ld l5 1 = some (gx_r 0) := ml5 1 _ h1 rfl
  have l5_2 : en_ld l5 2 = some (gx_r 383) := ml5 2 _ h2 rfl
  have l5_3 : en_ld l5 3 = some (gx_r 412) := ml5 3 _ h3 rfl
  refine ex_stop (S := (23, l5, [], tf2, n, sl)) rfl (fun _ => rfl) rfl ?_
  exact ⟨_, tf2, rfl, If, l5_0, l5_1, l5_2, l5_3, hl5⟩
theorem lw_23 {L i : Nat} {cl : en_L} (hLv : lw_Lv Lv L) (hi : i + 7 ≤ L) (hI : pi_I i t) (hcl : lw_cl cl i) : en_ex (some Lv) (en_u 60) en_lawc (fun pc => Nat.beq pc 23) (40, cl, [.inl 23], t, n, sl) (lw_nx i n sl) := by
  obtain ⟨h0, h1, h2, h3, h4⟩ := hcl
  have hL := hLv.2.1
  refine ex_go (S := (1002, cl, [], t, n, sl)) rfl (fun _ => rfl) rfl ?_
  refine gx_ld (i := 1) (d := 2) (v := gx_r 0) rfl (fun _ => rfl) h1 rfl rfl ?_
  refine gx_ld (i := 0) (d := 2) (v := .inr (.inr (.inr (.inl 2)))) rfl (fun _ => rfl) h0 rfl rfl ?_
  refine gx_ld (i := 4) (d := 0) (v := .inl i) rfl (fun _ => rfl) h4 rfl rfl ?_
  refine ex_go (S := (1007, cl, [.inl 1, .inl i, .inr (.inr (.inr (.inl 2))), gx_r 0], t, n, sl)) rfl (fun _ => rfl) rfl ?_
  refine ex_iadd rfl (by first | decide | omega) rfl ?_
  obtain ⟨m1, m1b, k2⟩ := hLv.2.2 (i + 1) (by first | decide | omega)
  refine gx_scr rfl k2 (by first | decide | omega) rfl ?_
  refine gx_ld (i := 0) (d := 2) (v := .inr (.inr (.inr (.inl 2)))) rfl (fun _ => rfl) h0 rfl rfl ?_
  refine gx_ld (i := 4) (d := 0) (v := .inl i) rfl (fun _ => rfl) h4 rfl rfl ?_
  refine ex_go (S := (1013, cl, [.inl 2, .inl i, .inr (.inr (.inr (.inl 2))), .inl m1, gx_r 0], t, n, sl)) rfl (fun _ => rfl) rfl ?_
  refine ex_iadd rfl (by first | decide | omega) rfl ?_
  obtain ⟨m3, m3b, k4⟩ := hLv.2.2 (i + 2) (by first | decide | omega)
  refine gx_scr rfl k4 (by first | decide | omega) rfl ?_
  refine gx_ld (i := 0) (d := 2) (v := .inr (.inr (.inr (.inl 2)))) rfl (fun _ => rfl) h0 rfl rfl ?_
  refine gx_ld (i := 4) (d := 0) (v := .inl i) rfl (fun _ => rfl) h4 rfl rfl ?_
  refine ex_go (S := (1019, cl, [.inl 3, .inl i, .inr (.inr (.inr (.inl 2))), .inl m3, .inl m1, gx_r 0], t, n, sl)) rfl (fun _ => rfl) rfl ?_
  refine ex_iadd rfl (by first | decide | omega) rfl ?_
  obtain ⟨m5, m5b, k6⟩ := hLv.2.2 (i + 3) (by first | decide | omega)
  refine gx_scr rfl k6 (by first | decide | omega) rfl ?_
  obtain ⟨xf, tf1, tf2, rf1, rf2, gf1, If⟩ := pr_23 (n := n) (x := m1) (y := m3) (z := m5) (by first | decide | omega) (by first | decide | omega) (by first | decide | omega) hI
  refine gx_callo (a := 0) rfl rfl hI.1 rfl rfl rfl rf1 rfl ?_
  show en_ex _ _ _ _ (1024, cl, [.inl xf], tf1, n, sl) _
  refine gx_pop rfl rfl rfl ?_
  refine gx_ld (i := 2) (d := 2) (v := gx_r 383) rfl (fun _ => rfl) h2 rfl rfl ?_
  refine gx_ld (i := 0) (d := 2) (v := .inr (.inr (.inr (.inl 2)))) rfl (fun _ => rfl) h0 rfl rfl ?_
  refine gx_ld (i := 4) (d := 0) (v := .inl i) rfl (fun _ => rfl) h4 rfl rfl ?_
  refine ex_go (S := (1030, cl, [.inl 1, .inl i, .inr (.inr (.inr (.inl 2))), gx_r 383], tf1, n, sl)) rfl (fun _ => rfl) rfl ?_
  refine ex_iadd rfl (by first | decide | omega) rfl ?_
  refine gx_scr rfl k2 (by first | decide | omega) rfl ?_
  refine gx_ld (i := 0) (d := 2) (v := .inr (.inr (.inr (.inl 2)))) rfl (fun _ => rfl) h0 rfl rfl ?_
  refine gx_ld (i := 4) (d := 0) (v := .inl i) rfl (fun _ => rfl) h4 rfl rfl ?_
  refine ex_go (S := (1036, cl, [.inl 2, .inl i, .inr (.inr (.inr (.inl 2))), .inl m1, gx_r 383], tf1, n, sl)) rfl (fun _ => rfl) rfl ?_
  refine ex_iadd rfl (by first | decide | omega) rfl ?_
  refine gx_scr rfl k4 (by first | decide | omega) rfl ?_
  refine gx_ld (i := 0) (d := 2) (v := .inr (.inr (.inr (.inl 2)))) rfl (fun _ => rfl) h0 rfl rfl ?_
  refine gx_ld (i := 4) (d := 0) (v := .inl i) rfl (fun _ => rfl) h4 rfl rfl ?_
  refine ex_go (S := (1042, cl, [.inl 3, .inl i, .inr (.inr (.inr (.inl 2))), .inl m3, .inl m1, gx_r 383], tf1, n, sl)) rfl (fun _ => rfl) rfl ?_
  refine ex_iadd rfl (by first | decide | omega) rfl ?_
  refine gx_scr rfl k6 (by first | decide | omega) rfl ?_
  refine gx_callo (a := 383) rfl rfl gf1 rfl rfl rfl rf2 rfl ?_
  show en_ex _ _ _ _ (1047, cl, [.inl xf], tf2, n, sl) _
  refine gx_pop rfl rfl rfl ?_
  refine ex_go (S := (1265, cl, [], tf2, n, sl)) rfl (fun _ => rfl) rfl ?_
  refine gx_incS (i := 4) (a := i) (x := 7) rfl (fun _ => rfl) h4 (by first | decide | omega) rfl (fun l7 hl7 ml7 => ?_)
  have l7_0 : en_ld l7 0 = some (.inr (.inr (.inr (.inl 2)))) := ml7 0 _ h0 rfl
  have l7_1 : en_ld l7 1 = some (gx_r 0) := ml7 1 _ h1 rfl
  have l7_2 : en_ld l7 2 = some (gx_r 383) := ml7 2 _ h2 rfl
  have l7_3 : en_ld l7 3 = some (gx_r 412) := ml7 3 _ h3 rfl
  refine ex_stop (S := (23, l7, [], tf2, n, sl)) rfl (fun _ => rfl) rfl ?_
  exact ⟨_, tf2, rfl, If, l7_0, l7_1, l7_2, l7_3, hl7⟩
theorem lw_24 {L i : Nat} {cl : en_L} (hLv : lw_Lv Lv L) (hi : i + 7 ≤ L) (hI : pi_I i t) (hcl : lw_cl cl i) : en_ex (some Lv) (en_u 60) en_lawc (fun pc => Nat.beq pc 23) (40, cl, [.inl 24], t, n, sl) (lw_nx i n sl) := by
  obtain ⟨h0, h1, h2, h3, h4⟩ := hcl
  have hL := hLv.2.1
  refine ex_go (S := (1051, cl, [], t, n, sl)) rfl (fun _ => rfl) rfl ?_
  refine gx_ld (i := 1) (d := 2) (v := gx_r 0) rfl (fun _ => rfl) h1 rfl rfl ?_
  refine gx_ld (i := 0) (d := 2) (v := .inr (.inr (.inr (.inl 2)))) rfl (fun _ => rfl) h0 rfl rfl ?_
  refine gx_ld (i := 4) (d := 0) (v := .inl i) rfl (fun _ => rfl) h4 rfl rfl ?_
  refine ex_go (S := (1056, cl, [.inl 1, .inl i, .inr (.inr (.inr (.inl 2))), gx_r 0], t, n, sl)) rfl (fun _ => rfl) rfl ?_
  refine ex_iadd rfl (by first | decide | omega) rfl ?_
  obtain ⟨m1, m1b, k2⟩ := hLv.2.2 (i + 1) (by first | decide | omega)
  refine gx_scr rfl k2 (by first | decide | omega) rfl ?_
  refine gx_ld (i := 0) (d := 2) (v := .inr (.inr (.inr (.inl 2)))) rfl (fun _ => rfl) h0 rfl rfl ?_
  refine gx_ld (i := 4) (d := 0) (v := .inl i) rfl (fun _ => rfl) h4 rfl rfl ?_
  refine ex_go (S := (1062, cl, [.inl 2, .inl i, .inr (.inr (.inr (.inl 2))), .inl m1, gx_r 0], t, n, sl)) rfl (fun _ => rfl) rfl ?_
  refine ex_iadd rfl (by first | decide | omega) rfl ?_
  obtain ⟨m3, m3b, k4⟩ := hLv.2.2 (i + 2) (by first | decide | omega)
  refine gx_scr rfl k4 (by first | decide | omega) rfl ?_
  obtain ⟨xf, tf1, tf2, rf1, rf2, gf1, If⟩ := pr_24 (n := n) (x := m1) (y := m3) (by first | decide | omega) (by first | decide | omega) hI
  refine gx_callo (a := 0) rfl rfl hI.1 rfl rfl rfl rf1 rfl ?_
  show en_ex _ _ _ _ (1067, cl, [.inl xf], tf1, n, sl) _
  refine gx_pop rfl rfl rfl ?_
  refine gx_ld (i := 2) (d := 2) (v := gx_r 383) rfl (fun _ => rfl) h2 rfl rfl ?_
  refine gx_ld (i := 0) (d := 2) (v := .inr (.inr (.inr (.inl 2)))) rfl (fun _ => rfl) h0 rfl rfl ?_
  refine gx_ld (i := 4) (d := 0) (v := .inl i) rfl (fun _ => rfl) h4 rfl rfl ?_
  refine ex_go (S := (1073, cl, [.inl 1, .inl i, .inr (.inr (.inr (.inl 2))), gx_r 383], tf1, n, sl)) rfl (fun _ => rfl) rfl ?_
  refine ex_iadd rfl (by first | decide | omega) rfl ?_
  refine gx_scr rfl k2 (by first | decide | omega) rfl ?_
  refine gx_ld (i := 0) (d := 2) (v := .inr (.inr (.inr (.inl 2)))) rfl (fun _ => rfl) h0 rfl rfl ?_
  refine gx_ld (i := 4) (d := 0) (v := .inl i) rfl (fun _ => rfl) h4 rfl rfl ?_
  refine ex_go (S := (1079, cl, [.inl 2, .inl i, .inr (.inr (.inr (.inl 2))), .inl m1, gx_r 383], tf1, n, sl)) rfl (fun _ => rfl) rfl ?_
  refine ex_iadd rfl (by first | decide | omega) rfl ?_
  refine gx_scr rfl k4 (by first | decide | omega) rfl ?_
  refine gx_callo (a := 383) rfl rfl gf1 rfl rfl rfl rf2 rfl ?_
  show en_ex _ _ _ _ (1084, cl, [.inl xf], tf2, n, sl) _
  refine gx_pop rfl rfl rfl ?_
  refine ex_go (S := (1265, cl, [], tf2, n, sl)) rfl (fun _ => rfl) rfl ?_
  refine gx_incS (i := 4) (a := i) (x := 7) rfl (fun _ => rfl) h4 (by first | decide | omega) rfl (fun l5 hl5 ml5 => ?_)
  have l5_0 : en_ld l5 0 = some (.inr (.inr (.inr (.inl 2)))) := ml5 0 _ h0 rfl
  have l5_1 : en_ld l5 1 = some (gx_r 0) := ml5 1 _ h1 rfl
  have l5_2 : en_ld l5 2 = some (gx_r 383) := ml5 2 _ h2 rfl
  have l5_3 : en_ld l5 3 = some (gx_r 412) := ml5 3 _ h3 rfl
  refine ex_stop (S := (23, l5, [], tf2, n, sl)) rfl (fun _ => rfl) rfl ?_
  exact ⟨_, tf2, rfl, If, l5_0, l5_1, l5_2, l5_3, hl5⟩
theorem lw_25 {L i : Nat} {cl : en_L} (hLv : lw_Lv Lv L) (hi : i + 7 ≤ L) (hI : pi_I i t) (hcl : lw_cl cl i) : en_ex (some Lv) (en_u 60) en_lawc (fun pc => Nat.beq pc 23) (40, cl, [.inl 25], t, n, sl) (lw_nx i n sl) := by
  obtain ⟨h0, h1, h2, h3, h4⟩ := hcl
  have hL := hLv.2.1
  refine ex_go (S := (1088, cl, [], t, n, sl)) rfl (fun _ => rfl) rfl ?_
  refine gx_ld (i := 1) (d := 2) (v := gx_r 0) rfl (fun _ => rfl) h1 rfl rfl ?_
  refine gx_ld (i := 0) (d := 2) (v := .inr (.inr (.inr (.inl 2)))) rfl (fun _ => rfl) h0 rfl rfl ?_
  refine gx_ld (i := 4) (d := 0) (v := .inl i) rfl (fun _ => rfl) h4 rfl rfl ?_
  refine ex_go (S := (1093, cl, [.inl 1, .inl i, .inr (.inr (.inr (.inl 2))), gx_r 0], t, n, sl)) rfl (fun _ => rfl) rfl ?_
  refine ex_iadd rfl (by first | decide | omega) rfl ?_
  obtain ⟨m1, m1b, k2⟩ := hLv.2.2 (i + 1) (by first | decide | omega)
  refine gx_scr rfl k2 (by first | decide | omega) rfl ?_
  obtain ⟨xf, tf1, tf2, rf1, rf2, gf1, If⟩ := pr_25 (n := n) (x := m1) (by first | decide | omega) hI (by first | decide | omega)
  refine gx_callo (a := 0) rfl rfl hI.1 rfl rfl rfl rf1 rfl ?_
  show en_ex _ _ _ _ (1098, cl, [.inl xf], tf1, n, sl) _
  refine gx_ld (i := 2) (d := 2) (v := gx_r 383) rfl (fun _ => rfl) h2 rfl rfl ?_
  refine gx_ld (i := 0) (d := 2) (v := .inr (.inr (.inr (.inl 2)))) rfl (fun _ => rfl) h0 rfl rfl ?_
  refine gx_ld (i := 4) (d := 0) (v := .inl i) rfl (fun _ => rfl) h4 rfl rfl ?_
  refine ex_go (S := (1103, cl, [.inl 1, .inl i, .inr (.inr (.inr (.inl 2))), gx_r 383, .inl xf], tf1, n, sl)) rfl (fun _ => rfl) rfl ?_
  refine ex_iadd rfl (by first | decide | omega) rfl ?_
  refine gx_scr rfl k2 (by first | decide | omega) rfl ?_
  refine gx_callo (a := 383) rfl rfl gf1 rfl rfl rfl rf2 rfl ?_
  show en_ex _ _ _ _ (1108, cl, [.inl xf, .inl xf], tf2, n, sl) _
  refine gx_2same rfl rfl ?_
  show en_ex _ _ _ _ (1265, cl, [], tf2, n, sl) _
  refine gx_incS (i := 4) (a := i) (x := 7) rfl (fun _ => rfl) h4 (by first | decide | omega) rfl (fun l3 hl3 ml3 => ?_)
  have l3_0 : en_ld l3 0 = some (.inr (.inr (.inr (.inl 2)))) := ml3 0 _ h0 rfl
  have l3_1 : en_ld l3 1 = some (gx_r 0) := ml3 1 _ h1 rfl
  have l3_2 : en_ld l3 2 = some (gx_r 383) := ml3 2 _ h2 rfl
  have l3_3 : en_ld l3 3 = some (gx_r 412) := ml3 3 _ h3 rfl
  refine ex_stop (S := (23, l3, [], tf2, n, sl)) rfl (fun _ => rfl) rfl ?_
  exact ⟨_, tf2, rfl, If, l3_0, l3_1, l3_2, l3_3, hl3⟩
theorem lw_26 {L i : Nat} {cl : en_L} (hLv : lw_Lv Lv L) (hi : i + 7 ≤ L) (hI : pi_I i t) (hcl : lw_cl cl i) : en_ex (some Lv) (en_u 60) en_lawc (fun pc => Nat.beq pc 23) (40, cl, [.inl 26], t, n, sl) (lw_nx i n sl) := by
  obtain ⟨h0, h1, h2, h3, h4⟩ := hcl
  have hL := hLv.2.1
  refine ex_go (S := (1113, cl, [], t, n, sl)) rfl (fun _ => rfl) rfl ?_
  refine gx_ld (i := 1) (d := 2) (v := gx_r 0) rfl (fun _ => rfl) h1 rfl rfl ?_
  refine gx_ld (i := 0) (d := 2) (v := .inr (.inr (.inr (.inl 2)))) rfl (fun _ => rfl) h0 rfl rfl ?_
  refine gx_ld (i := 4) (d := 0) (v := .inl i) rfl (fun _ => rfl) h4 rfl rfl ?_
  refine ex_go (S := (1118, cl, [.inl 1, .inl i, .inr (.inr (.inr (.inl 2))), gx_r 0], t, n, sl)) rfl (fun _ => rfl) rfl ?_
  refine ex_iadd rfl (by first | decide | omega) rfl ?_
  obtain ⟨m1, m1b, k2⟩ := hLv.2.2 (i + 1) (by first | decide | omega)
  refine gx_scr rfl k2 (by first | decide | omega) rfl ?_
  obtain ⟨xf, tf1, tf2, rf1, rf2, gf1, If⟩ := pr_26 (n := n) (x := m1) (by first | decide | omega) hI (by first | decide | omega)
  refine gx_callo (a := 0) rfl rfl hI.1 rfl rfl rfl rf1 rfl ?_
  show en_ex _ _ _ _ (1123, cl, [.inl xf], tf1, n, sl) _
  refine gx_pop rfl rfl rfl ?_
  refine gx_ld (i := 2) (d := 2) (v := gx_r 383) rfl (fun _ => rfl) h2 rfl rfl ?_
  refine gx_ld (i := 0) (d := 2) (v := .inr (.inr (.inr (.inl 2)))) rfl (fun _ => rfl) h0 rfl rfl ?_
  refine gx_ld (i := 4) (d := 0) (v := .inl i) rfl (fun _ => rfl) h4 rfl rfl ?_
  refine ex_go (S := (1129, cl, [.inl 1, .inl i, .inr (.inr (.inr (.inl 2))), gx_r 383], tf1, n, sl)) rfl (fun _ => rfl) rfl ?_
  refine ex_iadd rfl (by first | decide | omega) rfl ?_
  refine gx_scr rfl k2 (by first | decide | omega) rfl ?_
  refine gx_callo (a := 383) rfl rfl gf1 rfl rfl rfl rf2 rfl ?_
  show en_ex _ _ _ _ (1134, cl, [.inl xf], tf2, n, sl) _
  refine gx_pop rfl rfl rfl ?_
  refine ex_go (S := (1265, cl, [], tf2, n, sl)) rfl (fun _ => rfl) rfl ?_
  refine gx_incS (i := 4) (a := i) (x := 7) rfl (fun _ => rfl) h4 (by first | decide | omega) rfl (fun l3 hl3 ml3 => ?_)
  have l3_0 : en_ld l3 0 = some (.inr (.inr (.inr (.inl 2)))) := ml3 0 _ h0 rfl
  have l3_1 : en_ld l3 1 = some (gx_r 0) := ml3 1 _ h1 rfl
  have l3_2 : en_ld l3 2 = some (gx_r 383) := ml3 2 _ h2 rfl
  have l3_3 : en_ld l3 3 = some (gx_r 412) := ml3 3 _ h3 rfl
  refine ex_stop (S := (23, l3, [], tf2, n, sl)) rfl (fun _ => rfl) rfl ?_
  exact ⟨_, tf2, rfl, If, l3_0, l3_1, l3_2, l3_3, hl3⟩
theorem lw_27 {L i : Nat} {cl : en_L} (hLv : lw_Lv Lv L) (hi : i + 7 ≤ L) (hI : pi_I i t) (hcl : lw_cl cl i) : en_ex (some Lv) (en_u 60) en_lawc (fun pc => Nat.beq pc 23) (40, cl, [.inl 27], t, n, sl) (lw_nx i n sl) := by
  obtain ⟨h0, h1, h2, h3, h4⟩ := hcl
  have hL := hLv.2.1
  refine ex_go (S := (1138, cl, [], t, n, sl)) rfl (fun _ => rfl) rfl ?_
  refine gx_ld (i := 1) (d := 2) (v := gx_r 0) rfl (fun _ => rfl) h1 rfl rfl ?_
  refine gx_ld (i := 0) (d := 2) (v := .inr (.inr (.inr (.inl 2)))) rfl (fun _ => rfl) h0 rfl rfl ?_
  refine gx_ld (i := 4) (d := 0) (v := .inl i) rfl (fun _ => rfl) h4 rfl rfl ?_
  refine ex_go (S := (1143, cl, [.inl 1, .inl i, .inr (.inr (.inr (.inl 2))), gx_r 0], t, n, sl)) rfl (fun _ => rfl) rfl ?_
  refine ex_iadd rfl (by first | decide | omega) rfl ?_
  obtain ⟨m1, m1b, k2⟩ := hLv.2.2 (i + 1) (by first | decide | omega)
  refine gx_scr rfl k2 (by first | decide | omega) rfl ?_
  refine gx_ld (i := 0) (d := 2) (v := .inr (.inr (.inr (.inl 2)))) rfl (fun _ => rfl) h0 rfl rfl ?_
  refine gx_ld (i := 4) (d := 0) (v := .inl i) rfl (fun _ => rfl) h4 rfl rfl ?_
  refine ex_go (S := (1149, cl, [.inl 2, .inl i, .inr (.inr (.inr (.inl 2))), .inl m1, gx_r 0], t, n, sl)) rfl (fun _ => rfl) rfl ?_
  refine ex_iadd rfl (by first | decide | omega) rfl ?_
  obtain ⟨m3, m3b, k4⟩ := hLv.2.2 (i + 2) (by first | decide | omega)
  refine gx_scr rfl k4 (by first | decide | omega) rfl ?_
  refine gx_ld (i := 0) (d := 2) (v := .inr (.inr (.inr (.inl 2)))) rfl (fun _ => rfl) h0 rfl rfl ?_
  refine gx_ld (i := 4) (d := 0) (v := .inl i) rfl (fun _ => rfl) h4 rfl rfl ?_
  refine ex_go (S := (1155, cl, [.inl 3, .inl i, .inr (.inr (.inr (.inl 2))), .inl m3, .inl m1, gx_r 0], t, n, sl)) rfl (fun _ => rfl) rfl ?_
  refine ex_iadd rfl (by first | decide | omega) rfl ?_
  obtain ⟨m5, m5b, k6⟩ := hLv.2.2 (i + 3) (by first | decide | omega)
  refine gx_scr rfl k6 (by first | decide | omega) rfl ?_
  obtain ⟨xf, tf1, tf2, rf1, rf2, gf1, If⟩ := pr_27 (n := n) (x := m1) (y := m3) (z := m5) (by first | decide | omega) (by first | decide | omega) (by first | decide | omega) hI (by first | decide | omega)
  refine gx_callo (a := 0) rfl rfl hI.1 rfl rfl rfl rf1 rfl ?_
  show en_ex _ _ _ _ (1160, cl, [.inl xf], tf1, n, sl) _
  refine gx_pop rfl rfl rfl ?_
  refine gx_ld (i := 2) (d := 2) (v := gx_r 383) rfl (fun _ => rfl) h2 rfl rfl ?_
  refine gx_ld (i := 0) (d := 2) (v := .inr (.inr (.inr (.inl 2)))) rfl (fun _ => rfl) h0 rfl rfl ?_
  refine gx_ld (i := 4) (d := 0) (v := .inl i) rfl (fun _ => rfl) h4 rfl rfl ?_
  refine ex_go (S := (1166, cl, [.inl 1, .inl i, .inr (.inr (.inr (.inl 2))), gx_r 383], tf1, n, sl)) rfl (fun _ => rfl) rfl ?_
  refine ex_iadd rfl (by first | decide | omega) rfl ?_
  refine gx_scr rfl k2 (by first | decide | omega) rfl ?_
  refine gx_ld (i := 0) (d := 2) (v := .inr (.inr (.inr (.inl 2)))) rfl (fun _ => rfl) h0 rfl rfl ?_
  refine gx_ld (i := 4) (d := 0) (v := .inl i) rfl (fun _ => rfl) h4 rfl rfl ?_
  refine ex_go (S := (1172, cl, [.inl 2, .inl i, .inr (.inr (.inr (.inl 2))), .inl m1, gx_r 383], tf1, n, sl)) rfl (fun _ => rfl) rfl ?_
  refine ex_iadd rfl (by first | decide | omega) rfl ?_
  refine gx_scr rfl k4 (by first | decide | omega) rfl ?_
  refine gx_ld (i := 0) (d := 2) (v := .inr (.inr (.inr (.inl 2)))) rfl (fun _ => rfl) h0 rfl rfl ?_
  refine gx_ld (i := 4) (d := 0) (v := .inl i) rfl (fun _ => rfl) h4 rfl rfl ?_
  refine ex_go (S := (1178, cl, [.inl 3, .inl i, .inr (.inr (.inr (.inl 2))), .inl m3, .inl m1, gx_r 383], tf1, n, sl)) rfl (fun _ => rfl) rfl ?_
  refine ex_iadd rfl (by first | decide | omega) rfl ?_
  refine gx_scr rfl k6 (by first | decide | omega) rfl ?_
  refine gx_callo (a := 383) rfl rfl gf1 rfl rfl rfl rf2 rfl ?_
  show en_ex _ _ _ _ (1183, cl, [.inl xf], tf2, n, sl) _
  refine gx_pop rfl rfl rfl ?_
  refine ex_go (S := (1265, cl, [], tf2, n, sl)) rfl (fun _ => rfl) rfl ?_
  refine gx_incS (i := 4) (a := i) (x := 7) rfl (fun _ => rfl) h4 (by first | decide | omega) rfl (fun l7 hl7 ml7 => ?_)
  have l7_0 : en_ld l7 0 = some (.inr (.inr (.inr (.inl 2)))) := ml7 0 _ h0 rfl
  have l7_1 : en_ld l7 1 = some (gx_r 0) := ml7 1 _ h1 rfl
  have l7_2 : en_ld l7 2 = some (gx_r 383) := ml7 2 _ h2 rfl
  have l7_3 : en_ld l7 3 = some (gx_r 412) := ml7 3 _ h3 rfl
  refine ex_stop (S := (23, l7, [], tf2, n, sl)) rfl (fun _ => rfl) rfl ?_
  exact ⟨_, tf2, rfl, If, l7_0, l7_1, l7_2, l7_3, hl7⟩
theorem lw_28 {L i : Nat} {cl : en_L} (hLv : lw_Lv Lv L) (hi : i + 7 ≤ L) (hI : pi_I i t) (hcl : lw_cl cl i) : en_ex (some Lv) (en_u 60) en_lawc (fun pc => Nat.beq pc 23) (40, cl, [.inl 28], t, n, sl) (lw_nx i n sl) := by
  obtain ⟨h0, h1, h2, h3, h4⟩ := hcl
  have hL := hLv.2.1
  refine ex_go (S := (1187, cl, [], t, n, sl)) rfl (fun _ => rfl) rfl ?_
  refine gx_ld (i := 1) (d := 2) (v := gx_r 0) rfl (fun _ => rfl) h1 rfl rfl ?_
  refine gx_ld (i := 0) (d := 2) (v := .inr (.inr (.inr (.inl 2)))) rfl (fun _ => rfl) h0 rfl rfl ?_
  refine gx_ld (i := 4) (d := 0) (v := .inl i) rfl (fun _ => rfl) h4 rfl rfl ?_
  refine ex_go (S := (1192, cl, [.inl 1, .inl i, .inr (.inr (.inr (.inl 2))), gx_r 0], t, n, sl)) rfl (fun _ => rfl) rfl ?_
  refine ex_iadd rfl (by first | decide | omega) rfl ?_
  obtain ⟨m1, m1b, k2⟩ := hLv.2.2 (i + 1) (by first | decide | omega)
  refine gx_scr rfl k2 (by first | decide | omega) rfl ?_
  refine gx_ld (i := 0) (d := 2) (v := .inr (.inr (.inr (.inl 2)))) rfl (fun _ => rfl) h0 rfl rfl ?_
  refine gx_ld (i := 4) (d := 0) (v := .inl i) rfl (fun _ => rfl) h4 rfl rfl ?_
  refine ex_go (S := (1198, cl, [.inl 2, .inl i, .inr (.inr (.inr (.inl 2))), .inl m1, gx_r 0], t, n, sl)) rfl (fun _ => rfl) rfl ?_
  refine ex_iadd rfl (by first | decide | omega) rfl ?_
  obtain ⟨m3, m3b, k4⟩ := hLv.2.2 (i + 2) (by first | decide | omega)
  refine gx_scr rfl k4 (by first | decide | omega) rfl ?_
  rcases (show m3 = 0 ∨ (0 < m3 ∧ m3 < 2147483648) ∨ 2147483648 ≤ m3 by omega) with hm5 | hm5 | hm5
  · subst hm5
    refine ex_go (S := (1207, cl, [.inl m1, gx_r 0], t, n, sl)) rfl (fun _ => rfl) rfl ?_
    refine ex_go (S := (1208, cl, [.inl 0, .inl m1, gx_r 0], t, n, sl)) rfl (fun _ => rfl) rfl ?_
    obtain ⟨xf, tf1, tf2, rf1, rf2, gf1, If⟩ := pr_28 (n := n) (x := m1) (y := 0) (by first | decide | omega) (by first | decide | omega) hI (by first | decide | omega)
    refine gx_callo (a := 0) rfl rfl hI.1 rfl rfl rfl rf1 rfl ?_
    show en_ex _ _ _ _ (1211, cl, [.inl xf], tf1, n, sl) _
    refine gx_pop rfl rfl rfl ?_
    refine gx_ld (i := 2) (d := 2) (v := gx_r 383) rfl (fun _ => rfl) h2 rfl rfl ?_
    refine gx_ld (i := 0) (d := 2) (v := .inr (.inr (.inr (.inl 2)))) rfl (fun _ => rfl) h0 rfl rfl ?_
    refine gx_ld (i := 4) (d := 0) (v := .inl i) rfl (fun _ => rfl) h4 rfl rfl ?_
    refine ex_go (S := (1217, cl, [.inl 1, .inl i, .inr (.inr (.inr (.inl 2))), gx_r 383], tf1, n, sl)) rfl (fun _ => rfl) rfl ?_
    refine ex_iadd rfl (by first | decide | omega) rfl ?_
    refine gx_scr rfl k2 (by first | decide | omega) rfl ?_
    refine gx_ld (i := 0) (d := 2) (v := .inr (.inr (.inr (.inl 2)))) rfl (fun _ => rfl) h0 rfl rfl ?_
    refine gx_ld (i := 4) (d := 0) (v := .inl i) rfl (fun _ => rfl) h4 rfl rfl ?_
    refine ex_go (S := (1223, cl, [.inl 2, .inl i, .inr (.inr (.inr (.inl 2))), .inl m1, gx_r 383], tf1, n, sl)) rfl (fun _ => rfl) rfl ?_
    refine ex_iadd rfl (by first | decide | omega) rfl ?_
    refine gx_scr rfl k4 (by first | decide | omega) rfl ?_
    refine ex_go (S := (1232, cl, [.inl m1, gx_r 383], tf1, n, sl)) rfl (fun _ => rfl) rfl ?_
    refine ex_go (S := (1233, cl, [.inl 0, .inl m1, gx_r 383], tf1, n, sl)) rfl (fun _ => rfl) rfl ?_
    refine gx_callo (a := 383) rfl rfl gf1 rfl rfl rfl rf2 rfl ?_
    show en_ex _ _ _ _ (1236, cl, [.inl xf], tf2, n, sl) _
    refine gx_pop rfl rfl rfl ?_
    refine ex_go (S := (1265, cl, [], tf2, n, sl)) rfl (fun _ => rfl) rfl ?_
    refine gx_incS (i := 4) (a := i) (x := 7) rfl (fun _ => rfl) h4 (by first | decide | omega) rfl (fun l6 hl6 ml6 => ?_)
    have l6_0 : en_ld l6 0 = some (.inr (.inr (.inr (.inl 2)))) := ml6 0 _ h0 rfl
    have l6_1 : en_ld l6 1 = some (gx_r 0) := ml6 1 _ h1 rfl
    have l6_2 : en_ld l6 2 = some (gx_r 383) := ml6 2 _ h2 rfl
    have l6_3 : en_ld l6 3 = some (gx_r 412) := ml6 3 _ h3 rfl
    refine ex_stop (S := (23, l6, [], tf2, n, sl)) rfl (fun _ => rfl) rfl ?_
    exact ⟨_, tf2, rfl, If, l6_0, l6_1, l6_2, l6_3, hl6⟩
  · have := hm5
    refine gx_1f (c := .eq) rfl (by first | decide | omega) (show ¬ (m3 = 0) from by omega) rfl ?_
    refine ex_go (S := (1204, cl, [.inl 1, .inl m1, gx_r 0], t, n, sl)) rfl (fun _ => rfl) rfl ?_
    refine ex_go (S := (1208, cl, [.inl 1, .inl m1, gx_r 0], t, n, sl)) rfl (fun _ => rfl) rfl ?_
    obtain ⟨xf, tf1, tf2, rf1, rf2, gf1, If⟩ := pr_28 (n := n) (x := m1) (y := 1) (by first | decide | omega) (by first | decide | omega) hI (by first | decide | omega)
    refine gx_callo (a := 0) rfl rfl hI.1 rfl rfl rfl rf1 rfl ?_
    show en_ex _ _ _ _ (1211, cl, [.inl xf], tf1, n, sl) _
    refine gx_pop rfl rfl rfl ?_
    refine gx_ld (i := 2) (d := 2) (v := gx_r 383) rfl (fun _ => rfl) h2 rfl rfl ?_
    refine gx_ld (i := 0) (d := 2) (v := .inr (.inr (.inr (.inl 2)))) rfl (fun _ => rfl) h0 rfl rfl ?_
    refine gx_ld (i := 4) (d := 0) (v := .inl i) rfl (fun _ => rfl) h4 rfl rfl ?_
    refine ex_go (S := (1217, cl, [.inl 1, .inl i, .inr (.inr (.inr (.inl 2))), gx_r 383], tf1, n, sl)) rfl (fun _ => rfl) rfl ?_
    refine ex_iadd rfl (by first | decide | omega) rfl ?_
    refine gx_scr rfl k2 (by first | decide | omega) rfl ?_
    refine gx_ld (i := 0) (d := 2) (v := .inr (.inr (.inr (.inl 2)))) rfl (fun _ => rfl) h0 rfl rfl ?_
    refine gx_ld (i := 4) (d := 0) (v := .inl i) rfl (fun _ => rfl) h4 rfl rfl ?_
    refine ex_go (S := (1223, cl, [.inl 2, .inl i, .inr (.inr (.inr (.inl 2))), .inl m1, gx_r 383], tf1, n, sl)) rfl (fun _ => rfl) rfl ?_
    refine ex_iadd rfl (by first | decide | omega) rfl ?_
    refine gx_scr rfl k4 (by first | decide | omega) rfl ?_
    refine gx_1f (c := .eq) rfl (by first | decide | omega) (show ¬ (m3 = 0) from by omega) rfl ?_
    refine ex_go (S := (1229, cl, [.inl 1, .inl m1, gx_r 383], tf1, n, sl)) rfl (fun _ => rfl) rfl ?_
    refine ex_go (S := (1233, cl, [.inl 1, .inl m1, gx_r 383], tf1, n, sl)) rfl (fun _ => rfl) rfl ?_
    refine gx_callo (a := 383) rfl rfl gf1 rfl rfl rfl rf2 rfl ?_
    show en_ex _ _ _ _ (1236, cl, [.inl xf], tf2, n, sl) _
    refine gx_pop rfl rfl rfl ?_
    refine ex_go (S := (1265, cl, [], tf2, n, sl)) rfl (fun _ => rfl) rfl ?_
    refine gx_incS (i := 4) (a := i) (x := 7) rfl (fun _ => rfl) h4 (by first | decide | omega) rfl (fun l7 hl7 ml7 => ?_)
    have l7_0 : en_ld l7 0 = some (.inr (.inr (.inr (.inl 2)))) := ml7 0 _ h0 rfl
    have l7_1 : en_ld l7 1 = some (gx_r 0) := ml7 1 _ h1 rfl
    have l7_2 : en_ld l7 2 = some (gx_r 383) := ml7 2 _ h2 rfl
    have l7_3 : en_ld l7 3 = some (gx_r 412) := ml7 3 _ h3 rfl
    refine ex_stop (S := (23, l7, [], tf2, n, sl)) rfl (fun _ => rfl) rfl ?_
    exact ⟨_, tf2, rfl, If, l7_0, l7_1, l7_2, l7_3, hl7⟩
  · have := hm5
    refine gx_negf (c := .eq) rfl (by first | decide | omega) (by first | decide | omega) rfl rfl ?_
    refine ex_go (S := (1204, cl, [.inl 1, .inl m1, gx_r 0], t, n, sl)) rfl (fun _ => rfl) rfl ?_
    refine ex_go (S := (1208, cl, [.inl 1, .inl m1, gx_r 0], t, n, sl)) rfl (fun _ => rfl) rfl ?_
    obtain ⟨xf, tf1, tf2, rf1, rf2, gf1, If⟩ := pr_28 (n := n) (x := m1) (y := 1) (by first | decide | omega) (by first | decide | omega) hI (by first | decide | omega)
    refine gx_callo (a := 0) rfl rfl hI.1 rfl rfl rfl rf1 rfl ?_
    show en_ex _ _ _ _ (1211, cl, [.inl xf], tf1, n, sl) _
    refine gx_pop rfl rfl rfl ?_
    refine gx_ld (i := 2) (d := 2) (v := gx_r 383) rfl (fun _ => rfl) h2 rfl rfl ?_
    refine gx_ld (i := 0) (d := 2) (v := .inr (.inr (.inr (.inl 2)))) rfl (fun _ => rfl) h0 rfl rfl ?_
    refine gx_ld (i := 4) (d := 0) (v := .inl i) rfl (fun _ => rfl) h4 rfl rfl ?_
    refine ex_go (S := (1217, cl, [.inl 1, .inl i, .inr (.inr (.inr (.inl 2))), gx_r 383], tf1, n, sl)) rfl (fun _ => rfl) rfl ?_
    refine ex_iadd rfl (by first | decide | omega) rfl ?_
    refine gx_scr rfl k2 (by first | decide | omega) rfl ?_
    refine gx_ld (i := 0) (d := 2) (v := .inr (.inr (.inr (.inl 2)))) rfl (fun _ => rfl) h0 rfl rfl ?_
    refine gx_ld (i := 4) (d := 0) (v := .inl i) rfl (fun _ => rfl) h4 rfl rfl ?_
    refine ex_go (S := (1223, cl, [.inl 2, .inl i, .inr (.inr (.inr (.inl 2))), .inl m1, gx_r 383], tf1, n, sl)) rfl (fun _ => rfl) rfl ?_
    refine ex_iadd rfl (by first | decide | omega) rfl ?_
    refine gx_scr rfl k4 (by first | decide | omega) rfl ?_
    refine gx_negf (c := .eq) rfl (by first | decide | omega) (by first | decide | omega) rfl rfl ?_
    refine ex_go (S := (1229, cl, [.inl 1, .inl m1, gx_r 383], tf1, n, sl)) rfl (fun _ => rfl) rfl ?_
    refine ex_go (S := (1233, cl, [.inl 1, .inl m1, gx_r 383], tf1, n, sl)) rfl (fun _ => rfl) rfl ?_
    refine gx_callo (a := 383) rfl rfl gf1 rfl rfl rfl rf2 rfl ?_
    show en_ex _ _ _ _ (1236, cl, [.inl xf], tf2, n, sl) _
    refine gx_pop rfl rfl rfl ?_
    refine ex_go (S := (1265, cl, [], tf2, n, sl)) rfl (fun _ => rfl) rfl ?_
    refine gx_incS (i := 4) (a := i) (x := 7) rfl (fun _ => rfl) h4 (by first | decide | omega) rfl (fun l8 hl8 ml8 => ?_)
    have l8_0 : en_ld l8 0 = some (.inr (.inr (.inr (.inl 2)))) := ml8 0 _ h0 rfl
    have l8_1 : en_ld l8 1 = some (gx_r 0) := ml8 1 _ h1 rfl
    have l8_2 : en_ld l8 2 = some (gx_r 383) := ml8 2 _ h2 rfl
    have l8_3 : en_ld l8 3 = some (gx_r 412) := ml8 3 _ h3 rfl
    refine ex_stop (S := (23, l8, [], tf2, n, sl)) rfl (fun _ => rfl) rfl ?_
    exact ⟨_, tf2, rfl, If, l8_0, l8_1, l8_2, l8_3, hl8⟩
theorem lw_29 {L i : Nat} {cl : en_L} (hLv : lw_Lv Lv L) (hi : i + 7 ≤ L) (hI : pi_I i t) (hcl : lw_cl cl i) : en_ex (some Lv) (en_u 60) en_lawc (fun pc => Nat.beq pc 23) (40, cl, [.inl 29], t, n, sl) (lw_nx i n sl) := by
  obtain ⟨h0, h1, h2, h3, h4⟩ := hcl
  have hL := hLv.2.1
  refine ex_go (S := (1240, cl, [], t, n, sl)) rfl (fun _ => rfl) rfl ?_
  refine gx_ld (i := 1) (d := 2) (v := gx_r 0) rfl (fun _ => rfl) h1 rfl rfl ?_
  refine gx_ld (i := 0) (d := 2) (v := .inr (.inr (.inr (.inl 2)))) rfl (fun _ => rfl) h0 rfl rfl ?_
  refine gx_ld (i := 4) (d := 0) (v := .inl i) rfl (fun _ => rfl) h4 rfl rfl ?_
  refine ex_go (S := (1245, cl, [.inl 1, .inl i, .inr (.inr (.inr (.inl 2))), gx_r 0], t, n, sl)) rfl (fun _ => rfl) rfl ?_
  refine ex_iadd rfl (by first | decide | omega) rfl ?_
  obtain ⟨m1, m1b, k2⟩ := hLv.2.2 (i + 1) (by first | decide | omega)
  refine gx_scr rfl k2 (by first | decide | omega) rfl ?_
  obtain ⟨xf, tf1, tf2, rf1, rf2, gf1, If⟩ := pr_29 (n := n) (x := m1) (by first | decide | omega) hI (by first | decide | omega)
  refine gx_callo (a := 0) rfl rfl hI.1 rfl rfl rfl rf1 rfl ?_
  show en_ex _ _ _ _ (1250, cl, [.inl xf], tf1, n, sl) _
  refine gx_pop rfl rfl rfl ?_
  refine gx_ld (i := 2) (d := 2) (v := gx_r 383) rfl (fun _ => rfl) h2 rfl rfl ?_
  refine gx_ld (i := 0) (d := 2) (v := .inr (.inr (.inr (.inl 2)))) rfl (fun _ => rfl) h0 rfl rfl ?_
  refine gx_ld (i := 4) (d := 0) (v := .inl i) rfl (fun _ => rfl) h4 rfl rfl ?_
  refine ex_go (S := (1256, cl, [.inl 1, .inl i, .inr (.inr (.inr (.inl 2))), gx_r 383], tf1, n, sl)) rfl (fun _ => rfl) rfl ?_
  refine ex_iadd rfl (by first | decide | omega) rfl ?_
  refine gx_scr rfl k2 (by first | decide | omega) rfl ?_
  refine gx_callo (a := 383) rfl rfl gf1 rfl rfl rfl rf2 rfl ?_
  show en_ex _ _ _ _ (1261, cl, [.inl xf], tf2, n, sl) _
  refine gx_pop rfl rfl rfl ?_
  refine ex_go (S := (1265, cl, [], tf2, n, sl)) rfl (fun _ => rfl) rfl ?_
  refine gx_incS (i := 4) (a := i) (x := 7) rfl (fun _ => rfl) h4 (by first | decide | omega) rfl (fun l3 hl3 ml3 => ?_)
  have l3_0 : en_ld l3 0 = some (.inr (.inr (.inr (.inl 2)))) := ml3 0 _ h0 rfl
  have l3_1 : en_ld l3 1 = some (gx_r 0) := ml3 1 _ h1 rfl
  have l3_2 : en_ld l3 2 = some (gx_r 383) := ml3 2 _ h2 rfl
  have l3_3 : en_ld l3 3 = some (gx_r 412) := ml3 3 _ h3 rfl
  refine ex_stop (S := (23, l3, [], tf2, n, sl)) rfl (fun _ => rfl) rfl ?_
  exact ⟨_, tf2, rfl, If, l3_0, l3_1, l3_2, l3_3, hl3⟩
theorem lw_30 {L i : Nat} {cl : en_L} (hLv : lw_Lv Lv L) (hi : i + 7 ≤ L) (hI : pi_I i t) (hcl : lw_cl cl i) : en_ex (some Lv) (en_u 60) en_lawc (fun pc => Nat.beq pc 23) (40, cl, [.inl 30], t, n, sl) (lw_nx i n sl) := by
  obtain ⟨h0, h1, h2, h3, h4⟩ := hcl
  have hL := hLv.2.1
  refine ex_go (S := (1265, cl, [], t, n, sl)) rfl (fun _ => rfl) rfl ?_
  refine gx_incS (i := 4) (a := i) (x := 7) rfl (fun _ => rfl) h4 (by first | decide | omega) rfl (fun l1 hl1 ml1 => ?_)
  have l1_0 : en_ld l1 0 = some (.inr (.inr (.inr (.inl 2)))) := ml1 0 _ h0 rfl
  have l1_1 : en_ld l1 1 = some (gx_r 0) := ml1 1 _ h1 rfl
  have l1_2 : en_ld l1 2 = some (gx_r 383) := ml1 2 _ h2 rfl
  have l1_3 : en_ld l1 3 = some (gx_r 412) := ml1 3 _ h3 rfl
  refine ex_stop (S := (23, l1, [], t, n, sl)) rfl (fun _ => rfl) rfl ?_
  exact ⟨_, t, rfl, (pi_I_mono hI (by first | decide | omega)), l1_0, l1_1, l1_2, l1_3, hl1⟩
theorem lw_31 {L i : Nat} {cl : en_L} (hLv : lw_Lv Lv L) (hi : i + 7 ≤ L) (hI : pi_I i t) (hcl : lw_cl cl i) : en_ex (some Lv) (en_u 60) en_lawc (fun pc => Nat.beq pc 23) (40, cl, [.inl 31], t, n, sl) (lw_nx i n sl) := by
  obtain ⟨h0, h1, h2, h3, h4⟩ := hcl
  have hL := hLv.2.1
  refine ex_go (S := (1265, cl, [], t, n, sl)) rfl (fun _ => rfl) rfl ?_
  refine gx_incS (i := 4) (a := i) (x := 7) rfl (fun _ => rfl) h4 (by first | decide | omega) rfl (fun l1 hl1 ml1 => ?_)
  have l1_0 : en_ld l1 0 = some (.inr (.inr (.inr (.inl 2)))) := ml1 0 _ h0 rfl
  have l1_1 : en_ld l1 1 = some (gx_r 0) := ml1 1 _ h1 rfl
  have l1_2 : en_ld l1 2 = some (gx_r 383) := ml1 2 _ h2 rfl
  have l1_3 : en_ld l1 3 = some (gx_r 412) := ml1 3 _ h3 rfl
  refine ex_stop (S := (23, l1, [], t, n, sl)) rfl (fun _ => rfl) rfl ?_
  exact ⟨_, t, rfl, (pi_I_mono hI (by first | decide | omega)), l1_0, l1_1, l1_2, l1_3, hl1⟩
theorem gx_iand40 {x1 x2 a : Nat} (hc : code pc = some (.iand, nx, x1, x2)) (ha : a < 4294967296) (hp : stop nx = true) (h : ∀ z, z ≤ 31 → P (.inr (nx, ls, .inl z :: st, t, n, sl))) : en_ex oc f code stop (pc, ls, .inl 31 :: .inl a :: st, t, n, sl) P := by
  refine ex_stop (S := (nx, ls, .inl (nI a &&& nI 31).toBitVec.toNat :: st, t, n, sl)) hc (fun k => rfl) hp (h _ ?_)
  obtain ⟨z, e, z1, z2, z3⟩ := ai_iand_ok (0, 4294967295) (2147483679, 2147483679) (2147483648, 2147483679) a 31 rfl ⟨ha, Nat.zero_le _, by unfold ai_off; omega⟩ ⟨by decide, by decide, by decide⟩
  have e2 : (some (.inl (nI a &&& nI 31).toBitVec.toNat) : Option en_V) = some (.inl z) := e
  rw [Sum.inl.inj (Option.some.inj e2)]
  unfold ai_off at z2 z3
  dsimp only at z2 z3
  omega
theorem lw_head {L i : Nat} {cl : en_L} (hLv : lw_Lv Lv L) (hi : i + 7 ≤ L) (hcl : lw_cl cl i) : en_ex (some Lv) (en_u 60) en_lawc (fun pc => Nat.beq pc 40) (23, cl, [], t, n, sl) (fun o => ∃ z, z ≤ 31 ∧ o = .inr (40, cl, [.inl z], t, n, sl)) := by
  obtain ⟨h0, h1, h2, h3, h4⟩ := hcl
  have hL := hLv.2.1
  refine gx_ld (i := 4) (d := 0) (v := .inl i) rfl (fun _ => rfl) h4 rfl rfl ?_
  refine gx_ld (i := 0) (d := 2) (v := .inr (.inr (.inr (.inl 2)))) rfl (fun _ => rfl) h0 rfl rfl ?_
  refine gx_scl rfl hLv.1 rfl ?_
  refine ex_go (S := (29, cl, [.inl 7, .inl L, .inl i], t, n, sl)) rfl (fun _ => rfl) rfl ?_
  refine gx_isub rfl (by first | decide | omega) (by first | decide | omega) rfl ?_
  refine gx_2f (c := .gt) rfl (by first | decide | omega) (by first | decide | omega) (show ¬ (L - 7 < i) from by omega) rfl ?_
  refine gx_ld (i := 0) (d := 2) (v := .inr (.inr (.inr (.inl 2)))) rfl (fun _ => rfl) h0 rfl rfl ?_
  refine gx_ld (i := 4) (d := 0) (v := .inl i) rfl (fun _ => rfl) h4 rfl rfl ?_
  obtain ⟨m1, m1b, k2⟩ := hLv.2.2 (i) (by first | decide | omega)
  refine gx_scr rfl k2 (by first | decide | omega) rfl ?_
  refine ex_go (S := (39, cl, [.inl 31, .inl m1], t, n, sl)) rfl (fun _ => rfl) rfl ?_
  refine gx_iand40 rfl (by first | decide | omega) rfl (fun z hz => ⟨z, hz, rfl⟩)
end PKG
