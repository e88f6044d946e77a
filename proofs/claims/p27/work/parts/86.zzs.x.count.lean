section SSZ
/-- what count answers, of thirteen numbers -/
noncomputable def cnt (v : Nat → Nat) (x : Nat) : Nat := if x ≤ 12 then v x else 4294967295
noncomputable def cv (a b c d e f g h i j k l m : Nat) : Nat → Nat
  | 0 => a
  | 1 => b
  | 2 => c
  | 3 => d
  | 4 => e
  | 5 => f
  | 6 => g
  | 7 => h
  | 8 => i
  | 9 => j
  | 10 => k
  | 11 => l
  | _ => m
theorem cnt_y {v : Nat → Nat} {x : Nat} (h : x ≤ 12) : cnt v x = v x := if_pos h
theorem cnt_n {v : Nat → Nat} {x : Nat} (h : ¬ x ≤ 12) : cnt v x = 4294967295 := if_neg h
section
variable {oc : Option (List en_V)} {f : en_F} {code : Nat → Option en_I} {stop : Nat → Bool} {P : en_O → Prop}
variable {pc nx : Nat} {ls : en_L} {st : List en_V} {t : en_H} {n sl : Nat}
theorem gx_swo {df lo hi : Int} {os : Array Int} {x1 x2 x tg : Nat} (hc : code pc = some (.tableswitch df lo hi os, nx, x1, x2)) (hx : x < 4294967296) (h12 : ¬ x ≤ 12) (hlo : lo = 0) (hhi : hi = 12) (htg : (pc : Int) + df = (tg : Int)) (hp : stop tg = false) (h : en_ex oc f code stop (tg, ls, st, t, n, sl) P) : en_ex oc f code stop (pc, ls, .inl x :: st, t, n, sl) P := by
  refine ex_go (S := (tg, ls, st, t, n, sl)) hc (fun k => ?_) hp h
  show en_switch pc df lo hi os ls (.inl x :: st) t n sl k = _
  unfold en_switch
  dsimp only
  rw [show en_bnd (.inl x) = some ((x + 2147483648) % 4294967296, (x + 2147483648) % 4294967296) from rfl]
  dsimp only
  rw [if_pos (by first | decide | omega), if_pos (by first | decide | omega), htg]
  rfl
end
theorem sc_count191_323 (d n : Nat) {t0 : en_H} {v : Nat → Nat} {x : Nat} (g0 : ai_HG ah_G t0) (k10 : ai_hv t0 0 10 = some (gx_r 191)) (k12 : ai_hv t0 0 12 = some (gx_r 323)) (h0 : ai_hv t0 191 0 = some (.inl (v 0))) (h1 : ai_hv t0 191 1 = some (.inl (v 1))) (h2 : ai_hv t0 194 5 = some (.inl (v 2))) (h3 : ai_hv t0 200 5 = some (.inl (v 3))) (h4 : ai_hv t0 206 5 = some (.inl (v 4))) (h5 : ai_hv t0 8 0 = some (.inl (v 5))) (h6 : ai_hv t0 212 5 = some (.inl (v 6))) (h7 : ai_hv t0 218 5 = some (.inl (v 7))) (h8 : ai_hv t0 224 5 = some (.inl (v 8))) (h9 : ai_hv t0 323 5 = some (.inl (v 9))) (h10 : ai_hv t0 139 0 = some (.inl (v 10))) (h11 : ai_hv t0 22 2 = some (.inl (v 11))) (h12 : ai_hv t0 1 0 = some (.inl (v 12))) (hx : x < 4294967296) : ∃ r, en_u (d + 1) 85 [gx_r 0, .inl x] t0 n = some r ∧ r = (some (.inl (cnt v x)), t0, n, 0) := by
  refine en_u_ex rfl ?_
  show en_ex _ _ _ _ (0, [(0, gx_r 0), (1, .inl x)], [], t0, n, 0) _
  refine ex_go (S := (1, [(0, gx_r 0), (1, .inl x)], [.inl x], t0, n, 0)) rfl (fun _ => rfl) rfl ?_
  by_cases hx12 : x ≤ 12
  · rcases (show x = 0 ∨ x = 1 ∨ x = 2 ∨ x = 3 ∨ x = 4 ∨ x = 5 ∨ x = 6 ∨ x = 7 ∨ x = 8 ∨ x = 9 ∨ x = 10 ∨ x = 11 ∨ x = 12 by omega) with rfl | rfl | rfl | rfl | rfl | rfl | rfl | rfl | rfl | rfl | rfl | rfl | rfl
    · show en_ex _ _ _ _ (1, [(0, gx_r 0), (1, .inl 0)], [.inl 0], t0, n, 0) _
      refine ex_go (S := (68, [(0, gx_r 0), (1, .inl 0)], [], t0, n, 0)) rfl (fun _ => rfl) rfl ?_
      refine ex_go (S := (69, [(0, gx_r 0), (1, .inl 0)], [gx_r 0], t0, n, 0)) rfl (fun _ => rfl) rfl ?_
      refine gxo_get (a := 0) rfl g0 rfl rfl k10 rfl ?_
      refine gxo_get (a := 191) rfl g0 rfl rfl h0 rfl ?_
      refine ex_ret (r := (some (.inl (v 0)), t0, n, 0)) rfl (fun _ => rfl) ?_
      exact ⟨_, rfl, by rw [cnt_y (show 0 ≤ 12 by decide)]⟩
    · show en_ex _ _ _ _ (1, [(0, gx_r 0), (1, .inl 1)], [.inl 1], t0, n, 0) _
      refine ex_go (S := (76, [(0, gx_r 0), (1, .inl 1)], [], t0, n, 0)) rfl (fun _ => rfl) rfl ?_
      refine ex_go (S := (77, [(0, gx_r 0), (1, .inl 1)], [gx_r 0], t0, n, 0)) rfl (fun _ => rfl) rfl ?_
      refine gxo_get (a := 0) rfl g0 rfl rfl k10 rfl ?_
      refine gxo_get (a := 191) rfl g0 rfl rfl h1 rfl ?_
      refine ex_ret (r := (some (.inl (v 1)), t0, n, 0)) rfl (fun _ => rfl) ?_
      exact ⟨_, rfl, by rw [cnt_y (show 1 ≤ 12 by decide)]⟩
    · show en_ex _ _ _ _ (1, [(0, gx_r 0), (1, .inl 2)], [.inl 2], t0, n, 0) _
      refine ex_go (S := (84, [(0, gx_r 0), (1, .inl 2)], [], t0, n, 0)) rfl (fun _ => rfl) rfl ?_
      refine ex_go (S := (85, [(0, gx_r 0), (1, .inl 2)], [gx_r 0], t0, n, 0)) rfl (fun _ => rfl) rfl ?_
      refine gxo_get (a := 0) rfl g0 rfl rfl k10 rfl ?_
      refine gxo_ref (a := 191) (c := 194) rfl g0 rfl rfl rfl rfl rfl ?_
      refine gxo_get (a := 194) rfl g0 rfl rfl h2 rfl ?_
      refine ex_ret (r := (some (.inl (v 2)), t0, n, 0)) rfl (fun _ => rfl) ?_
      exact ⟨_, rfl, by rw [cnt_y (show 2 ≤ 12 by decide)]⟩
    · show en_ex _ _ _ _ (1, [(0, gx_r 0), (1, .inl 3)], [.inl 3], t0, n, 0) _
      refine ex_go (S := (95, [(0, gx_r 0), (1, .inl 3)], [], t0, n, 0)) rfl (fun _ => rfl) rfl ?_
      refine ex_go (S := (96, [(0, gx_r 0), (1, .inl 3)], [gx_r 0], t0, n, 0)) rfl (fun _ => rfl) rfl ?_
      refine gxo_get (a := 0) rfl g0 rfl rfl k10 rfl ?_
      refine gxo_ref (a := 191) (c := 200) rfl g0 rfl rfl rfl rfl rfl ?_
      refine gxo_get (a := 200) rfl g0 rfl rfl h3 rfl ?_
      refine ex_ret (r := (some (.inl (v 3)), t0, n, 0)) rfl (fun _ => rfl) ?_
      exact ⟨_, rfl, by rw [cnt_y (show 3 ≤ 12 by decide)]⟩
    · show en_ex _ _ _ _ (1, [(0, gx_r 0), (1, .inl 4)], [.inl 4], t0, n, 0) _
      refine ex_go (S := (106, [(0, gx_r 0), (1, .inl 4)], [], t0, n, 0)) rfl (fun _ => rfl) rfl ?_
      refine ex_go (S := (107, [(0, gx_r 0), (1, .inl 4)], [gx_r 0], t0, n, 0)) rfl (fun _ => rfl) rfl ?_
      refine gxo_get (a := 0) rfl g0 rfl rfl k10 rfl ?_
      refine gxo_ref (a := 191) (c := 206) rfl g0 rfl rfl rfl rfl rfl ?_
      refine gxo_get (a := 206) rfl g0 rfl rfl h4 rfl ?_
      refine ex_ret (r := (some (.inl (v 4)), t0, n, 0)) rfl (fun _ => rfl) ?_
      exact ⟨_, rfl, by rw [cnt_y (show 4 ≤ 12 by decide)]⟩
    · show en_ex _ _ _ _ (1, [(0, gx_r 0), (1, .inl 5)], [.inl 5], t0, n, 0) _
      refine ex_go (S := (117, [(0, gx_r 0), (1, .inl 5)], [], t0, n, 0)) rfl (fun _ => rfl) rfl ?_
      refine ex_go (S := (118, [(0, gx_r 0), (1, .inl 5)], [gx_r 0], t0, n, 0)) rfl (fun _ => rfl) rfl ?_
      refine gxo_ref (a := 0) (c := 8) rfl g0 rfl rfl rfl rfl rfl ?_
      refine gxo_get (a := 8) rfl g0 rfl rfl h5 rfl ?_
      refine ex_ret (r := (some (.inl (v 5)), t0, n, 0)) rfl (fun _ => rfl) ?_
      exact ⟨_, rfl, by rw [cnt_y (show 5 ≤ 12 by decide)]⟩
    · show en_ex _ _ _ _ (1, [(0, gx_r 0), (1, .inl 6)], [.inl 6], t0, n, 0) _
      refine ex_go (S := (125, [(0, gx_r 0), (1, .inl 6)], [], t0, n, 0)) rfl (fun _ => rfl) rfl ?_
      refine ex_go (S := (126, [(0, gx_r 0), (1, .inl 6)], [gx_r 0], t0, n, 0)) rfl (fun _ => rfl) rfl ?_
      refine gxo_get (a := 0) rfl g0 rfl rfl k10 rfl ?_
      refine gxo_ref (a := 191) (c := 212) rfl g0 rfl rfl rfl rfl rfl ?_
      refine gxo_get (a := 212) rfl g0 rfl rfl h6 rfl ?_
      refine ex_ret (r := (some (.inl (v 6)), t0, n, 0)) rfl (fun _ => rfl) ?_
      exact ⟨_, rfl, by rw [cnt_y (show 6 ≤ 12 by decide)]⟩
    · show en_ex _ _ _ _ (1, [(0, gx_r 0), (1, .inl 7)], [.inl 7], t0, n, 0) _
      refine ex_go (S := (136, [(0, gx_r 0), (1, .inl 7)], [], t0, n, 0)) rfl (fun _ => rfl) rfl ?_
      refine ex_go (S := (137, [(0, gx_r 0), (1, .inl 7)], [gx_r 0], t0, n, 0)) rfl (fun _ => rfl) rfl ?_
      refine gxo_get (a := 0) rfl g0 rfl rfl k10 rfl ?_
      refine gxo_ref (a := 191) (c := 218) rfl g0 rfl rfl rfl rfl rfl ?_
      refine gxo_get (a := 218) rfl g0 rfl rfl h7 rfl ?_
      refine ex_ret (r := (some (.inl (v 7)), t0, n, 0)) rfl (fun _ => rfl) ?_
      exact ⟨_, rfl, by rw [cnt_y (show 7 ≤ 12 by decide)]⟩
    · show en_ex _ _ _ _ (1, [(0, gx_r 0), (1, .inl 8)], [.inl 8], t0, n, 0) _
      refine ex_go (S := (147, [(0, gx_r 0), (1, .inl 8)], [], t0, n, 0)) rfl (fun _ => rfl) rfl ?_
      refine ex_go (S := (148, [(0, gx_r 0), (1, .inl 8)], [gx_r 0], t0, n, 0)) rfl (fun _ => rfl) rfl ?_
      refine gxo_get (a := 0) rfl g0 rfl rfl k10 rfl ?_
      refine gxo_ref (a := 191) (c := 224) rfl g0 rfl rfl rfl rfl rfl ?_
      refine gxo_get (a := 224) rfl g0 rfl rfl h8 rfl ?_
      refine ex_ret (r := (some (.inl (v 8)), t0, n, 0)) rfl (fun _ => rfl) ?_
      exact ⟨_, rfl, by rw [cnt_y (show 8 ≤ 12 by decide)]⟩
    · show en_ex _ _ _ _ (1, [(0, gx_r 0), (1, .inl 9)], [.inl 9], t0, n, 0) _
      refine ex_go (S := (158, [(0, gx_r 0), (1, .inl 9)], [], t0, n, 0)) rfl (fun _ => rfl) rfl ?_
      refine ex_go (S := (159, [(0, gx_r 0), (1, .inl 9)], [gx_r 0], t0, n, 0)) rfl (fun _ => rfl) rfl ?_
      refine gxo_get (a := 0) rfl g0 rfl rfl k12 rfl ?_
      refine gxo_get (a := 323) rfl g0 rfl rfl h9 rfl ?_
      refine ex_ret (r := (some (.inl (v 9)), t0, n, 0)) rfl (fun _ => rfl) ?_
      exact ⟨_, rfl, by rw [cnt_y (show 9 ≤ 12 by decide)]⟩
    · show en_ex _ _ _ _ (1, [(0, gx_r 0), (1, .inl 10)], [.inl 10], t0, n, 0) _
      refine ex_go (S := (166, [(0, gx_r 0), (1, .inl 10)], [], t0, n, 0)) rfl (fun _ => rfl) rfl ?_
      refine ex_go (S := (167, [(0, gx_r 0), (1, .inl 10)], [gx_r 0], t0, n, 0)) rfl (fun _ => rfl) rfl ?_
      refine gxo_ref (a := 0) (c := 139) rfl g0 rfl rfl rfl rfl rfl ?_
      refine gxo_get (a := 139) rfl g0 rfl rfl h10 rfl ?_
      refine ex_ret (r := (some (.inl (v 10)), t0, n, 0)) rfl (fun _ => rfl) ?_
      exact ⟨_, rfl, by rw [cnt_y (show 10 ≤ 12 by decide)]⟩
    · show en_ex _ _ _ _ (1, [(0, gx_r 0), (1, .inl 11)], [.inl 11], t0, n, 0) _
      refine ex_go (S := (174, [(0, gx_r 0), (1, .inl 11)], [], t0, n, 0)) rfl (fun _ => rfl) rfl ?_
      refine ex_go (S := (175, [(0, gx_r 0), (1, .inl 11)], [gx_r 0], t0, n, 0)) rfl (fun _ => rfl) rfl ?_
      refine gxo_ref (a := 0) (c := 22) rfl g0 rfl rfl rfl rfl rfl ?_
      refine gxo_get (a := 22) rfl g0 rfl rfl h11 rfl ?_
      refine ex_ret (r := (some (.inl (v 11)), t0, n, 0)) rfl (fun _ => rfl) ?_
      exact ⟨_, rfl, by rw [cnt_y (show 11 ≤ 12 by decide)]⟩
    · show en_ex _ _ _ _ (1, [(0, gx_r 0), (1, .inl 12)], [.inl 12], t0, n, 0) _
      refine ex_go (S := (182, [(0, gx_r 0), (1, .inl 12)], [], t0, n, 0)) rfl (fun _ => rfl) rfl ?_
      refine ex_go (S := (183, [(0, gx_r 0), (1, .inl 12)], [gx_r 0], t0, n, 0)) rfl (fun _ => rfl) rfl ?_
      refine gxo_ref (a := 0) (c := 1) rfl g0 rfl rfl rfl rfl rfl ?_
      refine gxo_get (a := 1) rfl g0 rfl rfl h12 rfl ?_
      refine ex_ret (r := (some (.inl (v 12)), t0, n, 0)) rfl (fun _ => rfl) ?_
      exact ⟨_, rfl, by rw [cnt_y (show 12 ≤ 12 by decide)]⟩
  · refine gx_swo (tg := 190) rfl hx hx12 rfl rfl (by decide) rfl ?_
    refine ex_go (S := (191, [(0, gx_r 0), (1, .inl x)], [.inl 4294967295], t0, n, 0)) rfl (fun _ => rfl) rfl ?_
    refine ex_ret (r := (some (.inl 4294967295), t0, n, 0)) rfl (fun _ => rfl) ?_
    exact ⟨_, rfl, by rw [cnt_n hx12]⟩
theorem sc_count191_329 (d n : Nat) {t0 : en_H} {v : Nat → Nat} {x : Nat} (g0 : ai_HG ah_G t0) (k10 : ai_hv t0 0 10 = some (gx_r 191)) (k12 : ai_hv t0 0 12 = some (gx_r 329)) (h0 : ai_hv t0 191 0 = some (.inl (v 0))) (h1 : ai_hv t0 191 1 = some (.inl (v 1))) (h2 : ai_hv t0 194 5 = some (.inl (v 2))) (h3 : ai_hv t0 200 5 = some (.inl (v 3))) (h4 : ai_hv t0 206 5 = some (.inl (v 4))) (h5 : ai_hv t0 8 0 = some (.inl (v 5))) (h6 : ai_hv t0 212 5 = some (.inl (v 6))) (h7 : ai_hv t0 218 5 = some (.inl (v 7))) (h8 : ai_hv t0 224 5 = some (.inl (v 8))) (h9 : ai_hv t0 329 5 = some (.inl (v 9))) (h10 : ai_hv t0 139 0 = some (.inl (v 10))) (h11 : ai_hv t0 22 2 = some (.inl (v 11))) (h12 : ai_hv t0 1 0 = some (.inl (v 12))) (hx : x < 4294967296) : ∃ r, en_u (d + 1) 85 [gx_r 0, .inl x] t0 n = some r ∧ r = (some (.inl (cnt v x)), t0, n, 0) := by
  refine en_u_ex rfl ?_
  show en_ex _ _ _ _ (0, [(0, gx_r 0), (1, .inl x)], [], t0, n, 0) _
  refine ex_go (S := (1, [(0, gx_r 0), (1, .inl x)], [.inl x], t0, n, 0)) rfl (fun _ => rfl) rfl ?_
  by_cases hx12 : x ≤ 12
  · rcases (show x = 0 ∨ x = 1 ∨ x = 2 ∨ x = 3 ∨ x = 4 ∨ x = 5 ∨ x = 6 ∨ x = 7 ∨ x = 8 ∨ x = 9 ∨ x = 10 ∨ x = 11 ∨ x = 12 by omega) with rfl | rfl | rfl | rfl | rfl | rfl | rfl | rfl | rfl | rfl | rfl | rfl | rfl
    · show en_ex _ _ _ _ (1, [(0, gx_r 0), (1, .inl 0)], [.inl 0], t0, n, 0) _
      refine ex_go (S := (68, [(0, gx_r 0), (1, .inl 0)], [], t0, n, 0)) rfl (fun _ => rfl) rfl ?_
      refine ex_go (S := (69, [(0, gx_r 0), (1, .inl 0)], [gx_r 0], t0, n, 0)) rfl (fun _ => rfl) rfl ?_
      refine gxo_get (a := 0) rfl g0 rfl rfl k10 rfl ?_
      refine gxo_get (a := 191) rfl g0 rfl rfl h0 rfl ?_
      refine ex_ret (r := (some (.inl (v 0)), t0, n, 0)) rfl (fun _ => rfl) ?_
      exact ⟨_, rfl, by rw [cnt_y (show 0 ≤ 12 by decide)]⟩
    · show en_ex _ _ _ _ (1, [(0, gx_r 0), (1, .inl 1)], [.inl 1], t0, n, 0) _
      refine ex_go (S := (76, [(0, gx_r 0), (1, .inl 1)], [], t0, n, 0)) rfl (fun _ => rfl) rfl ?_
      refine ex_go (S := (77, [(0, gx_r 0), (1, .inl 1)], [gx_r 0], t0, n, 0)) rfl (fun _ => rfl) rfl ?_
      refine gxo_get (a := 0) rfl g0 rfl rfl k10 rfl ?_
      refine gxo_get (a := 191) rfl g0 rfl rfl h1 rfl ?_
      refine ex_ret (r := (some (.inl (v 1)), t0, n, 0)) rfl (fun _ => rfl) ?_
      exact ⟨_, rfl, by rw [cnt_y (show 1 ≤ 12 by decide)]⟩
    · show en_ex _ _ _ _ (1, [(0, gx_r 0), (1, .inl 2)], [.inl 2], t0, n, 0) _
      refine ex_go (S := (84, [(0, gx_r 0), (1, .inl 2)], [], t0, n, 0)) rfl (fun _ => rfl) rfl ?_
      refine ex_go (S := (85, [(0, gx_r 0), (1, .inl 2)], [gx_r 0], t0, n, 0)) rfl (fun _ => rfl) rfl ?_
      refine gxo_get (a := 0) rfl g0 rfl rfl k10 rfl ?_
      refine gxo_ref (a := 191) (c := 194) rfl g0 rfl rfl rfl rfl rfl ?_
      refine gxo_get (a := 194) rfl g0 rfl rfl h2 rfl ?_
      refine ex_ret (r := (some (.inl (v 2)), t0, n, 0)) rfl (fun _ => rfl) ?_
      exact ⟨_, rfl, by rw [cnt_y (show 2 ≤ 12 by decide)]⟩
    · show en_ex _ _ _ _ (1, [(0, gx_r 0), (1, .inl 3)], [.inl 3], t0, n, 0) _
      refine ex_go (S := (95, [(0, gx_r 0), (1, .inl 3)], [], t0, n, 0)) rfl (fun _ => rfl) rfl ?_
      refine ex_go (S := (96, [(0, gx_r 0), (1, .inl 3)], [gx_r 0], t0, n, 0)) rfl (fun _ => rfl) rfl ?_
      refine gxo_get (a := 0) rfl g0 rfl rfl k10 rfl ?_
      refine gxo_ref (a := 191) (c := 200) rfl g0 rfl rfl rfl rfl rfl ?_
      refine gxo_get (a := 200) rfl g0 rfl rfl h3 rfl ?_
      refine ex_ret (r := (some (.inl (v 3)), t0, n, 0)) rfl (fun _ => rfl) ?_
      exact ⟨_, rfl, by rw [cnt_y (show 3 ≤ 12 by decide)]⟩
    · show en_ex _ _ _ _ (1, [(0, gx_r 0), (1, .inl 4)], [.inl 4], t0, n, 0) _
      refine ex_go (S := (106, [(0, gx_r 0), (1, .inl 4)], [], t0, n, 0)) rfl (fun _ => rfl) rfl ?_
      refine ex_go (S := (107, [(0, gx_r 0), (1, .inl 4)], [gx_r 0], t0, n, 0)) rfl (fun _ => rfl) rfl ?_
      refine gxo_get (a := 0) rfl g0 rfl rfl k10 rfl ?_
      refine gxo_ref (a := 191) (c := 206) rfl g0 rfl rfl rfl rfl rfl ?_
      refine gxo_get (a := 206) rfl g0 rfl rfl h4 rfl ?_
      refine ex_ret (r := (some (.inl (v 4)), t0, n, 0)) rfl (fun _ => rfl) ?_
      exact ⟨_, rfl, by rw [cnt_y (show 4 ≤ 12 by decide)]⟩
    · show en_ex _ _ _ _ (1, [(0, gx_r 0), (1, .inl 5)], [.inl 5], t0, n, 0) _
      refine ex_go (S := (117, [(0, gx_r 0), (1, .inl 5)], [], t0, n, 0)) rfl (fun _ => rfl) rfl ?_
      refine ex_go (S := (118, [(0, gx_r 0), (1, .inl 5)], [gx_r 0], t0, n, 0)) rfl (fun _ => rfl) rfl ?_
      refine gxo_ref (a := 0) (c := 8) rfl g0 rfl rfl rfl rfl rfl ?_
      refine gxo_get (a := 8) rfl g0 rfl rfl h5 rfl ?_
      refine ex_ret (r := (some (.inl (v 5)), t0, n, 0)) rfl (fun _ => rfl) ?_
      exact ⟨_, rfl, by rw [cnt_y (show 5 ≤ 12 by decide)]⟩
    · show en_ex _ _ _ _ (1, [(0, gx_r 0), (1, .inl 6)], [.inl 6], t0, n, 0) _
      refine ex_go (S := (125, [(0, gx_r 0), (1, .inl 6)], [], t0, n, 0)) rfl (fun _ => rfl) rfl ?_
      refine ex_go (S := (126, [(0, gx_r 0), (1, .inl 6)], [gx_r 0], t0, n, 0)) rfl (fun _ => rfl) rfl ?_
      refine gxo_get (a := 0) rfl g0 rfl rfl k10 rfl ?_
      refine gxo_ref (a := 191) (c := 212) rfl g0 rfl rfl rfl rfl rfl ?_
      refine gxo_get (a := 212) rfl g0 rfl rfl h6 rfl ?_
      refine ex_ret (r := (some (.inl (v 6)), t0, n, 0)) rfl (fun _ => rfl) ?_
      exact ⟨_, rfl, by rw [cnt_y (show 6 ≤ 12 by decide)]⟩
    · show en_ex _ _ _ _ (1, [(0, gx_r 0), (1, .inl 7)], [.inl 7], t0, n, 0) _
      refine ex_go (S := (136, [(0, gx_r 0), (1, .inl 7)], [], t0, n, 0)) rfl (fun _ => rfl) rfl ?_
      refine ex_go (S := (137, [(0, gx_r 0), (1, .inl 7)], [gx_r 0], t0, n, 0)) rfl (fun _ => rfl) rfl ?_
      refine gxo_get (a := 0) rfl g0 rfl rfl k10 rfl ?_
      refine gxo_ref (a := 191) (c := 218) rfl g0 rfl rfl rfl rfl rfl ?_
      refine gxo_get (a := 218) rfl g0 rfl rfl h7 rfl ?_
      refine ex_ret (r := (some (.inl (v 7)), t0, n, 0)) rfl (fun _ => rfl) ?_
      exact ⟨_, rfl, by rw [cnt_y (show 7 ≤ 12 by decide)]⟩
    · show en_ex _ _ _ _ (1, [(0, gx_r 0), (1, .inl 8)], [.inl 8], t0, n, 0) _
      refine ex_go (S := (147, [(0, gx_r 0), (1, .inl 8)], [], t0, n, 0)) rfl (fun _ => rfl) rfl ?_
      refine ex_go (S := (148, [(0, gx_r 0), (1, .inl 8)], [gx_r 0], t0, n, 0)) rfl (fun _ => rfl) rfl ?_
      refine gxo_get (a := 0) rfl g0 rfl rfl k10 rfl ?_
      refine gxo_ref (a := 191) (c := 224) rfl g0 rfl rfl rfl rfl rfl ?_
      refine gxo_get (a := 224) rfl g0 rfl rfl h8 rfl ?_
      refine ex_ret (r := (some (.inl (v 8)), t0, n, 0)) rfl (fun _ => rfl) ?_
      exact ⟨_, rfl, by rw [cnt_y (show 8 ≤ 12 by decide)]⟩
    · show en_ex _ _ _ _ (1, [(0, gx_r 0), (1, .inl 9)], [.inl 9], t0, n, 0) _
      refine ex_go (S := (158, [(0, gx_r 0), (1, .inl 9)], [], t0, n, 0)) rfl (fun _ => rfl) rfl ?_
      refine ex_go (S := (159, [(0, gx_r 0), (1, .inl 9)], [gx_r 0], t0, n, 0)) rfl (fun _ => rfl) rfl ?_
      refine gxo_get (a := 0) rfl g0 rfl rfl k12 rfl ?_
      refine gxo_get (a := 329) rfl g0 rfl rfl h9 rfl ?_
      refine ex_ret (r := (some (.inl (v 9)), t0, n, 0)) rfl (fun _ => rfl) ?_
      exact ⟨_, rfl, by rw [cnt_y (show 9 ≤ 12 by decide)]⟩
    · show en_ex _ _ _ _ (1, [(0, gx_r 0), (1, .inl 10)], [.inl 10], t0, n, 0) _
      refine ex_go (S := (166, [(0, gx_r 0), (1, .inl 10)], [], t0, n, 0)) rfl (fun _ => rfl) rfl ?_
      refine ex_go (S := (167, [(0, gx_r 0), (1, .inl 10)], [gx_r 0], t0, n, 0)) rfl (fun _ => rfl) rfl ?_
      refine gxo_ref (a := 0) (c := 139) rfl g0 rfl rfl rfl rfl rfl ?_
      refine gxo_get (a := 139) rfl g0 rfl rfl h10 rfl ?_
      refine ex_ret (r := (some (.inl (v 10)), t0, n, 0)) rfl (fun _ => rfl) ?_
      exact ⟨_, rfl, by rw [cnt_y (show 10 ≤ 12 by decide)]⟩
    · show en_ex _ _ _ _ (1, [(0, gx_r 0), (1, .inl 11)], [.inl 11], t0, n, 0) _
      refine ex_go (S := (174, [(0, gx_r 0), (1, .inl 11)], [], t0, n, 0)) rfl (fun _ => rfl) rfl ?_
      refine ex_go (S := (175, [(0, gx_r 0), (1, .inl 11)], [gx_r 0], t0, n, 0)) rfl (fun _ => rfl) rfl ?_
      refine gxo_ref (a := 0) (c := 22) rfl g0 rfl rfl rfl rfl rfl ?_
      refine gxo_get (a := 22) rfl g0 rfl rfl h11 rfl ?_
      refine ex_ret (r := (some (.inl (v 11)), t0, n, 0)) rfl (fun _ => rfl) ?_
      exact ⟨_, rfl, by rw [cnt_y (show 11 ≤ 12 by decide)]⟩
    · show en_ex _ _ _ _ (1, [(0, gx_r 0), (1, .inl 12)], [.inl 12], t0, n, 0) _
      refine ex_go (S := (182, [(0, gx_r 0), (1, .inl 12)], [], t0, n, 0)) rfl (fun _ => rfl) rfl ?_
      refine ex_go (S := (183, [(0, gx_r 0), (1, .inl 12)], [gx_r 0], t0, n, 0)) rfl (fun _ => rfl) rfl ?_
      refine gxo_ref (a := 0) (c := 1) rfl g0 rfl rfl rfl rfl rfl ?_
      refine gxo_get (a := 1) rfl g0 rfl rfl h12 rfl ?_
      refine ex_ret (r := (some (.inl (v 12)), t0, n, 0)) rfl (fun _ => rfl) ?_
      exact ⟨_, rfl, by rw [cnt_y (show 12 ≤ 12 by decide)]⟩
  · refine gx_swo (tg := 190) rfl hx hx12 rfl rfl (by decide) rfl ?_
    refine ex_go (S := (191, [(0, gx_r 0), (1, .inl x)], [.inl 4294967295], t0, n, 0)) rfl (fun _ => rfl) rfl ?_
    refine ex_ret (r := (some (.inl 4294967295), t0, n, 0)) rfl (fun _ => rfl) ?_
    exact ⟨_, rfl, by rw [cnt_n hx12]⟩
theorem sc_count257_323 (d n : Nat) {t0 : en_H} {v : Nat → Nat} {x : Nat} (g0 : ai_HG ah_G t0) (k10 : ai_hv t0 0 10 = some (gx_r 257)) (k12 : ai_hv t0 0 12 = some (gx_r 323)) (h0 : ai_hv t0 257 0 = some (.inl (v 0))) (h1 : ai_hv t0 257 1 = some (.inl (v 1))) (h2 : ai_hv t0 260 5 = some (.inl (v 2))) (h3 : ai_hv t0 266 5 = some (.inl (v 3))) (h4 : ai_hv t0 272 5 = some (.inl (v 4))) (h5 : ai_hv t0 8 0 = some (.inl (v 5))) (h6 : ai_hv t0 278 5 = some (.inl (v 6))) (h7 : ai_hv t0 284 5 = some (.inl (v 7))) (h8 : ai_hv t0 290 5 = some (.inl (v 8))) (h9 : ai_hv t0 323 5 = some (.inl (v 9))) (h10 : ai_hv t0 139 0 = some (.inl (v 10))) (h11 : ai_hv t0 22 2 = some (.inl (v 11))) (h12 : ai_hv t0 1 0 = some (.inl (v 12))) (hx : x < 4294967296) : ∃ r, en_u (d + 1) 85 [gx_r 0, .inl x] t0 n = some r ∧ r = (some (.inl (cnt v x)), t0, n, 0) := by
  refine en_u_ex rfl ?_
  show en_ex _ _ _ _ (0, [(0, gx_r 0), (1, .inl x)], [], t0, n, 0) _
  refine ex_go (S := (1, [(0, gx_r 0), (1, .inl x)], [.inl x], t0, n, 0)) rfl (fun _ => rfl) rfl ?_
  by_cases hx12 : x ≤ 12
  · rcases (show x = 0 ∨ x = 1 ∨ x = 2 ∨ x = 3 ∨ x = 4 ∨ x = 5 ∨ x = 6 ∨ x = 7 ∨ x = 8 ∨ x = 9 ∨ x = 10 ∨ x = 11 ∨ x = 12 by omega) with rfl | rfl | rfl | rfl | rfl | rfl | rfl | rfl | rfl | rfl | rfl | rfl | rfl
    · show en_ex _ _ _ _ (1, [(0, gx_r 0), (1, .inl 0)], [.inl 0], t0, n, 0) _
      refine ex_go (S := (68, [(0, gx_r 0), (1, .inl 0)], [], t0, n, 0)) rfl (fun _ => rfl) rfl ?_
      refine ex_go (S := (69, [(0, gx_r 0), (1, .inl 0)], [gx_r 0], t0, n, 0)) rfl (fun _ => rfl) rfl ?_
      refine gxo_get (a := 0) rfl g0 rfl rfl k10 rfl ?_
      refine gxo_get (a := 257) rfl g0 rfl rfl h0 rfl ?_
      refine ex_ret (r := (some (.inl (v 0)), t0, n, 0)) rfl (fun _ => rfl) ?_
      exact ⟨_, rfl, by rw [cnt_y (show 0 ≤ 12 by decide)]⟩
    · show en_ex _ _ _ _ (1, [(0, gx_r 0), (1, .inl 1)], [.inl 1], t0, n, 0) _
      refine ex_go (S := (76, [(0, gx_r 0), (1, .inl 1)], [], t0, n, 0)) rfl (fun _ => rfl) rfl ?_
      refine ex_go (S := (77, [(0, gx_r 0), (1, .inl 1)], [gx_r 0], t0, n, 0)) rfl (fun _ => rfl) rfl ?_
      refine gxo_get (a := 0) rfl g0 rfl rfl k10 rfl ?_
      refine gxo_get (a := 257) rfl g0 rfl rfl h1 rfl ?_
      refine ex_ret (r := (some (.inl (v 1)), t0, n, 0)) rfl (fun _ => rfl) ?_
      exact ⟨_, rfl, by rw [cnt_y (show 1 ≤ 12 by decide)]⟩
    · show en_ex _ _ _ _ (1, [(0, gx_r 0), (1, .inl 2)], [.inl 2], t0, n, 0) _
      refine ex_go (S := (84, [(0, gx_r 0), (1, .inl 2)], [], t0, n, 0)) rfl (fun _ => rfl) rfl ?_
      refine ex_go (S := (85, [(0, gx_r 0), (1, .inl 2)], [gx_r 0], t0, n, 0)) rfl (fun _ => rfl) rfl ?_
      refine gxo_get (a := 0) rfl g0 rfl rfl k10 rfl ?_
      refine gxo_ref (a := 257) (c := 260) rfl g0 rfl rfl rfl rfl rfl ?_
      refine gxo_get (a := 260) rfl g0 rfl rfl h2 rfl ?_
      refine ex_ret (r := (some (.inl (v 2)), t0, n, 0)) rfl (fun _ => rfl) ?_
      exact ⟨_, rfl, by rw [cnt_y (show 2 ≤ 12 by decide)]⟩
    · show en_ex _ _ _ _ (1, [(0, gx_r 0), (1, .inl 3)], [.inl 3], t0, n, 0) _
      refine ex_go (S := (95, [(0, gx_r 0), (1, .inl 3)], [], t0, n, 0)) rfl (fun _ => rfl) rfl ?_
      refine ex_go (S := (96, [(0, gx_r 0), (1, .inl 3)], [gx_r 0], t0, n, 0)) rfl (fun _ => rfl) rfl ?_
      refine gxo_get (a := 0) rfl g0 rfl rfl k10 rfl ?_
      refine gxo_ref (a := 257) (c := 266) rfl g0 rfl rfl rfl rfl rfl ?_
      refine gxo_get (a := 266) rfl g0 rfl rfl h3 rfl ?_
      refine ex_ret (r := (some (.inl (v 3)), t0, n, 0)) rfl (fun _ => rfl) ?_
      exact ⟨_, rfl, by rw [cnt_y (show 3 ≤ 12 by decide)]⟩
    · show en_ex _ _ _ _ (1, [(0, gx_r 0), (1, .inl 4)], [.inl 4], t0, n, 0) _
      refine ex_go (S := (106, [(0, gx_r 0), (1, .inl 4)], [], t0, n, 0)) rfl (fun _ => rfl) rfl ?_
      refine ex_go (S := (107, [(0, gx_r 0), (1, .inl 4)], [gx_r 0], t0, n, 0)) rfl (fun _ => rfl) rfl ?_
      refine gxo_get (a := 0) rfl g0 rfl rfl k10 rfl ?_
      refine gxo_ref (a := 257) (c := 272) rfl g0 rfl rfl rfl rfl rfl ?_
      refine gxo_get (a := 272) rfl g0 rfl rfl h4 rfl ?_
      refine ex_ret (r := (some (.inl (v 4)), t0, n, 0)) rfl (fun _ => rfl) ?_
      exact ⟨_, rfl, by rw [cnt_y (show 4 ≤ 12 by decide)]⟩
    · show en_ex _ _ _ _ (1, [(0, gx_r 0), (1, .inl 5)], [.inl 5], t0, n, 0) _
      refine ex_go (S := (117, [(0, gx_r 0), (1, .inl 5)], [], t0, n, 0)) rfl (fun _ => rfl) rfl ?_
      refine ex_go (S := (118, [(0, gx_r 0), (1, .inl 5)], [gx_r 0], t0, n, 0)) rfl (fun _ => rfl) rfl ?_
      refine gxo_ref (a := 0) (c := 8) rfl g0 rfl rfl rfl rfl rfl ?_
      refine gxo_get (a := 8) rfl g0 rfl rfl h5 rfl ?_
      refine ex_ret (r := (some (.inl (v 5)), t0, n, 0)) rfl (fun _ => rfl) ?_
      exact ⟨_, rfl, by rw [cnt_y (show 5 ≤ 12 by decide)]⟩
    · show en_ex _ _ _ _ (1, [(0, gx_r 0), (1, .inl 6)], [.inl 6], t0, n, 0) _
      refine ex_go (S := (125, [(0, gx_r 0), (1, .inl 6)], [], t0, n, 0)) rfl (fun _ => rfl) rfl ?_
      refine ex_go (S := (126, [(0, gx_r 0), (1, .inl 6)], [gx_r 0], t0, n, 0)) rfl (fun _ => rfl) rfl ?_
      refine gxo_get (a := 0) rfl g0 rfl rfl k10 rfl ?_
      refine gxo_ref (a := 257) (c := 278) rfl g0 rfl rfl rfl rfl rfl ?_
      refine gxo_get (a := 278) rfl g0 rfl rfl h6 rfl ?_
      refine ex_ret (r := (some (.inl (v 6)), t0, n, 0)) rfl (fun _ => rfl) ?_
      exact ⟨_, rfl, by rw [cnt_y (show 6 ≤ 12 by decide)]⟩
    · show en_ex _ _ _ _ (1, [(0, gx_r 0), (1, .inl 7)], [.inl 7], t0, n, 0) _
      refine ex_go (S := (136, [(0, gx_r 0), (1, .inl 7)], [], t0, n, 0)) rfl (fun _ => rfl) rfl ?_
      refine ex_go (S := (137, [(0, gx_r 0), (1, .inl 7)], [gx_r 0], t0, n, 0)) rfl (fun _ => rfl) rfl ?_
      refine gxo_get (a := 0) rfl g0 rfl rfl k10 rfl ?_
      refine gxo_ref (a := 257) (c := 284) rfl g0 rfl rfl rfl rfl rfl ?_
      refine gxo_get (a := 284) rfl g0 rfl rfl h7 rfl ?_
      refine ex_ret (r := (some (.inl (v 7)), t0, n, 0)) rfl (fun _ => rfl) ?_
      exact ⟨_, rfl, by rw [cnt_y (show 7 ≤ 12 by decide)]⟩
    · show en_ex _ _ _ _ (1, [(0, gx_r 0), (1, .inl 8)], [.inl 8], t0, n, 0) _
      refine ex_go (S := (147, [(0, gx_r 0), (1, .inl 8)], [], t0, n, 0)) rfl (fun _ => rfl) rfl ?_
      refine ex_go (S := (148, [(0, gx_r 0), (1, .inl 8)], [gx_r 0], t0, n, 0)) rfl (fun _ => rfl) rfl ?_
      refine gxo_get (a := 0) rfl g0 rfl rfl k10 rfl ?_
      refine gxo_ref (a := 257) (c := 290) rfl g0 rfl rfl rfl rfl rfl ?_
      refine gxo_get (a := 290) rfl g0 rfl rfl h8 rfl ?_
      refine ex_ret (r := (some (.inl (v 8)), t0, n, 0)) rfl (fun _ => rfl) ?_
      exact ⟨_, rfl, by rw [cnt_y (show 8 ≤ 12 by decide)]⟩
    · show en_ex _ _ _ _ (1, [(0, gx_r 0), (1, .inl 9)], [.inl 9], t0, n, 0) _
      refine ex_go (S := (158, [(0, gx_r 0), (1, .inl 9)], [], t0, n, 0)) rfl (fun _ => rfl) rfl ?_
      refine ex_go (S := (159, [(0, gx_r 0), (1, .inl 9)], [gx_r 0], t0, n, 0)) rfl (fun _ => rfl) rfl ?_
      refine gxo_get (a := 0) rfl g0 rfl rfl k12 rfl ?_
      refine gxo_get (a := 323) rfl g0 rfl rfl h9 rfl ?_
      refine ex_ret (r := (some (.inl (v 9)), t0, n, 0)) rfl (fun _ => rfl) ?_
      exact ⟨_, rfl, by rw [cnt_y (show 9 ≤ 12 by decide)]⟩
    · show en_ex _ _ _ _ (1, [(0, gx_r 0), (1, .inl 10)], [.inl 10], t0, n, 0) _
      refine ex_go (S := (166, [(0, gx_r 0), (1, .inl 10)], [], t0, n, 0)) rfl (fun _ => rfl) rfl ?_
      refine ex_go (S := (167, [(0, gx_r 0), (1, .inl 10)], [gx_r 0], t0, n, 0)) rfl (fun _ => rfl) rfl ?_
      refine gxo_ref (a := 0) (c := 139) rfl g0 rfl rfl rfl rfl rfl ?_
      refine gxo_get (a := 139) rfl g0 rfl rfl h10 rfl ?_
      refine ex_ret (r := (some (.inl (v 10)), t0, n, 0)) rfl (fun _ => rfl) ?_
      exact ⟨_, rfl, by rw [cnt_y (show 10 ≤ 12 by decide)]⟩
    · show en_ex _ _ _ _ (1, [(0, gx_r 0), (1, .inl 11)], [.inl 11], t0, n, 0) _
      refine ex_go (S := (174, [(0, gx_r 0), (1, .inl 11)], [], t0, n, 0)) rfl (fun _ => rfl) rfl ?_
      refine ex_go (S := (175, [(0, gx_r 0), (1, .inl 11)], [gx_r 0], t0, n, 0)) rfl (fun _ => rfl) rfl ?_
      refine gxo_ref (a := 0) (c := 22) rfl g0 rfl rfl rfl rfl rfl ?_
      refine gxo_get (a := 22) rfl g0 rfl rfl h11 rfl ?_
      refine ex_ret (r := (some (.inl (v 11)), t0, n, 0)) rfl (fun _ => rfl) ?_
      exact ⟨_, rfl, by rw [cnt_y (show 11 ≤ 12 by decide)]⟩
    · show en_ex _ _ _ _ (1, [(0, gx_r 0), (1, .inl 12)], [.inl 12], t0, n, 0) _
      refine ex_go (S := (182, [(0, gx_r 0), (1, .inl 12)], [], t0, n, 0)) rfl (fun _ => rfl) rfl ?_
      refine ex_go (S := (183, [(0, gx_r 0), (1, .inl 12)], [gx_r 0], t0, n, 0)) rfl (fun _ => rfl) rfl ?_
      refine gxo_ref (a := 0) (c := 1) rfl g0 rfl rfl rfl rfl rfl ?_
      refine gxo_get (a := 1) rfl g0 rfl rfl h12 rfl ?_
      refine ex_ret (r := (some (.inl (v 12)), t0, n, 0)) rfl (fun _ => rfl) ?_
      exact ⟨_, rfl, by rw [cnt_y (show 12 ≤ 12 by decide)]⟩
  · refine gx_swo (tg := 190) rfl hx hx12 rfl rfl (by decide) rfl ?_
    refine ex_go (S := (191, [(0, gx_r 0), (1, .inl x)], [.inl 4294967295], t0, n, 0)) rfl (fun _ => rfl) rfl ?_
    refine ex_ret (r := (some (.inl 4294967295), t0, n, 0)) rfl (fun _ => rfl) ?_
    exact ⟨_, rfl, by rw [cnt_n hx12]⟩
theorem sc_count257_329 (d n : Nat) {t0 : en_H} {v : Nat → Nat} {x : Nat} (g0 : ai_HG ah_G t0) (k10 : ai_hv t0 0 10 = some (gx_r 257)) (k12 : ai_hv t0 0 12 = some (gx_r 329)) (h0 : ai_hv t0 257 0 = some (.inl (v 0))) (h1 : ai_hv t0 257 1 = some (.inl (v 1))) (h2 : ai_hv t0 260 5 = some (.inl (v 2))) (h3 : ai_hv t0 266 5 = some (.inl (v 3))) (h4 : ai_hv t0 272 5 = some (.inl (v 4))) (h5 : ai_hv t0 8 0 = some (.inl (v 5))) (h6 : ai_hv t0 278 5 = some (.inl (v 6))) (h7 : ai_hv t0 284 5 = some (.inl (v 7))) (h8 : ai_hv t0 290 5 = some (.inl (v 8))) (h9 : ai_hv t0 329 5 = some (.inl (v 9))) (h10 : ai_hv t0 139 0 = some (.inl (v 10))) (h11 : ai_hv t0 22 2 = some (.inl (v 11))) (h12 : ai_hv t0 1 0 = some (.inl (v 12))) (hx : x < 4294967296) : ∃ r, en_u (d + 1) 85 [gx_r 0, .inl x] t0 n = some r ∧ r = (some (.inl (cnt v x)), t0, n, 0) := by
  refine en_u_ex rfl ?_
  show en_ex _ _ _ _ (0, [(0, gx_r 0), (1, .inl x)], [], t0, n, 0) _
  refine ex_go (S := (1, [(0, gx_r 0), (1, .inl x)], [.inl x], t0, n, 0)) rfl (fun _ => rfl) rfl ?_
  by_cases hx12 : x ≤ 12
  · rcases (show x = 0 ∨ x = 1 ∨ x = 2 ∨ x = 3 ∨ x = 4 ∨ x = 5 ∨ x = 6 ∨ x = 7 ∨ x = 8 ∨ x = 9 ∨ x = 10 ∨ x = 11 ∨ x = 12 by omega) with rfl | rfl | rfl | rfl | rfl | rfl | rfl | rfl | rfl | rfl | rfl | rfl | rfl
    · show en_ex _ _ _ _ (1, [(0, gx_r 0), (1, .inl 0)], [.inl 0], t0, n, 0) _
      refine ex_go (S := (68, [(0, gx_r 0), (1, .inl 0)], [], t0, n, 0)) rfl (fun _ => rfl) rfl ?_
      refine ex_go (S := (69, [(0, gx_r 0), (1, .inl 0)], [gx_r 0], t0, n, 0)) rfl (fun _ => rfl) rfl ?_
      refine gxo_get (a := 0) rfl g0 rfl rfl k10 rfl ?_
      refine gxo_get (a := 257) rfl g0 rfl rfl h0 rfl ?_
      refine ex_ret (r := (some (.inl (v 0)), t0, n, 0)) rfl (fun _ => rfl) ?_
      exact ⟨_, rfl, by rw [cnt_y (show 0 ≤ 12 by decide)]⟩
    · show en_ex _ _ _ _ (1, [(0, gx_r 0), (1, .inl 1)], [.inl 1], t0, n, 0) _
      refine ex_go (S := (76, [(0, gx_r 0), (1, .inl 1)], [], t0, n, 0)) rfl (fun _ => rfl) rfl ?_
      refine ex_go (S := (77, [(0, gx_r 0), (1, .inl 1)], [gx_r 0], t0, n, 0)) rfl (fun _ => rfl) rfl ?_
      refine gxo_get (a := 0) rfl g0 rfl rfl k10 rfl ?_
      refine gxo_get (a := 257) rfl g0 rfl rfl h1 rfl ?_
      refine ex_ret (r := (some (.inl (v 1)), t0, n, 0)) rfl (fun _ => rfl) ?_
      exact ⟨_, rfl, by rw [cnt_y (show 1 ≤ 12 by decide)]⟩
    · show en_ex _ _ _ _ (1, [(0, gx_r 0), (1, .inl 2)], [.inl 2], t0, n, 0) _
      refine ex_go (S := (84, [(0, gx_r 0), (1, .inl 2)], [], t0, n, 0)) rfl (fun _ => rfl) rfl ?_
      refine ex_go (S := (85, [(0, gx_r 0), (1, .inl 2)], [gx_r 0], t0, n, 0)) rfl (fun _ => rfl) rfl ?_
      refine gxo_get (a := 0) rfl g0 rfl rfl k10 rfl ?_
      refine gxo_ref (a := 257) (c := 260) rfl g0 rfl rfl rfl rfl rfl ?_
      refine gxo_get (a := 260) rfl g0 rfl rfl h2 rfl ?_
      refine ex_ret (r := (some (.inl (v 2)), t0, n, 0)) rfl (fun _ => rfl) ?_
      exact ⟨_, rfl, by rw [cnt_y (show 2 ≤ 12 by decide)]⟩
    · show en_ex _ _ _ _ (1, [(0, gx_r 0), (1, .inl 3)], [.inl 3], t0, n, 0) _
      refine ex_go (S := (95, [(0, gx_r 0), (1, .inl 3)], [], t0, n, 0)) rfl (fun _ => rfl) rfl ?_
      refine ex_go (S := (96, [(0, gx_r 0), (1, .inl 3)], [gx_r 0], t0, n, 0)) rfl (fun _ => rfl) rfl ?_
      refine gxo_get (a := 0) rfl g0 rfl rfl k10 rfl ?_
      refine gxo_ref (a := 257) (c := 266) rfl g0 rfl rfl rfl rfl rfl ?_
      refine gxo_get (a := 266) rfl g0 rfl rfl h3 rfl ?_
      refine ex_ret (r := (some (.inl (v 3)), t0, n, 0)) rfl (fun _ => rfl) ?_
      exact ⟨_, rfl, by rw [cnt_y (show 3 ≤ 12 by decide)]⟩
    · show en_ex _ _ _ _ (1, [(0, gx_r 0), (1, .inl 4)], [.inl 4], t0, n, 0) _
      refine ex_go (S := (106, [(0, gx_r 0), (1, .inl 4)], [], t0, n, 0)) rfl (fun _ => rfl) rfl ?_
      refine ex_go (S := (107, [(0, gx_r 0), (1, .inl 4)], [gx_r 0], t0, n, 0)) rfl (fun _ => rfl) rfl ?_
      refine gxo_get (a := 0) rfl g0 rfl rfl k10 rfl ?_
      refine gxo_ref (a := 257) (c := 272) rfl g0 rfl rfl rfl rfl rfl ?_
      refine gxo_get (a := 272) rfl g0 rfl rfl h4 rfl ?_
      refine ex_ret (r := (some (.inl (v 4)), t0, n, 0)) rfl (fun _ => rfl) ?_
      exact ⟨_, rfl, by rw [cnt_y (show 4 ≤ 12 by decide)]⟩
    · show en_ex _ _ _ _ (1, [(0, gx_r 0), (1, .inl 5)], [.inl 5], t0, n, 0) _
      refine ex_go (S := (117, [(0, gx_r 0), (1, .inl 5)], [], t0, n, 0)) rfl (fun _ => rfl) rfl ?_
      refine ex_go (S := (118, [(0, gx_r 0), (1, .inl 5)], [gx_r 0], t0, n, 0)) rfl (fun _ => rfl) rfl ?_
      refine gxo_ref (a := 0) (c := 8) rfl g0 rfl rfl rfl rfl rfl ?_
      refine gxo_get (a := 8) rfl g0 rfl rfl h5 rfl ?_
      refine ex_ret (r := (some (.inl (v 5)), t0, n, 0)) rfl (fun _ => rfl) ?_
      exact ⟨_, rfl, by rw [cnt_y (show 5 ≤ 12 by decide)]⟩
    · show en_ex _ _ _ _ (1, [(0, gx_r 0), (1, .inl 6)], [.inl 6], t0, n, 0) _
      refine ex_go (S := (125, [(0, gx_r 0), (1, .inl 6)], [], t0, n, 0)) rfl (fun _ => rfl) rfl ?_
      refine ex_go (S := (126, [(0, gx_r 0), (1, .inl 6)], [gx_r 0], t0, n, 0)) rfl (fun _ => rfl) rfl ?_
      refine gxo_get (a := 0) rfl g0 rfl rfl k10 rfl ?_
      refine gxo_ref (a := 257) (c := 278) rfl g0 rfl rfl rfl rfl rfl ?_
      refine gxo_get (a := 278) rfl g0 rfl rfl h6 rfl ?_
      refine ex_ret (r := (some (.inl (v 6)), t0, n, 0)) rfl (fun _ => rfl) ?_
      exact ⟨_, rfl, by rw [cnt_y (show 6 ≤ 12 by decide)]⟩
    · show en_ex _ _ _ _ (1, [(0, gx_r 0), (1, .inl 7)], [.inl 7], t0, n, 0) _
      refine ex_go (S := (136, [(0, gx_r 0), (1, .inl 7)], [], t0, n, 0)) rfl (fun _ => rfl) rfl ?_
      refine ex_go (S := (137, [(0, gx_r 0), (1, .inl 7)], [gx_r 0], t0, n, 0)) rfl (fun _ => rfl) rfl ?_
      refine gxo_get (a := 0) rfl g0 rfl rfl k10 rfl ?_
      refine gxo_ref (a := 257) (c := 284) rfl g0 rfl rfl rfl rfl rfl ?_
      refine gxo_get (a := 284) rfl g0 rfl rfl h7 rfl ?_
      refine ex_ret (r := (some (.inl (v 7)), t0, n, 0)) rfl (fun _ => rfl) ?_
      exact ⟨_, rfl, by rw [cnt_y (show 7 ≤ 12 by decide)]⟩
    · show en_ex _ _ _ _ (1, [(0, gx_r 0), (1, .inl 8)], [.inl 8], t0, n, 0) _
      refine ex_go (S := (147, [(0, gx_r 0), (1, .inl 8)], [], t0, n, 0)) rfl (fun _ => rfl) rfl ?_
      refine ex_go (S := (148, [(0, gx_r 0), (1, .inl 8)], [gx_r 0], t0, n, 0)) rfl (fun _ => rfl) rfl ?_
      refine gxo_get (a := 0) rfl g0 rfl rfl k10 rfl ?_
      refine gxo_ref (a := 257) (c := 290) rfl g0 rfl rfl rfl rfl rfl ?_
      refine gxo_get (a := 290) rfl g0 rfl rfl h8 rfl ?_
      refine ex_ret (r := (some (.inl (v 8)), t0, n, 0)) rfl (fun _ => rfl) ?_
      exact ⟨_, rfl, by rw [cnt_y (show 8 ≤ 12 by decide)]⟩
    · show en_ex _ _ _ _ (1, [(0, gx_r 0), (1, .inl 9)], [.inl 9], t0, n, 0) _
      refine ex_go (S := (158, [(0, gx_r 0), (1, .inl 9)], [], t0, n, 0)) rfl (fun _ => rfl) rfl ?_
      refine ex_go (S := (159, [(0, gx_r 0), (1, .inl 9)], [gx_r 0], t0, n, 0)) rfl (fun _ => rfl) rfl ?_
      refine gxo_get (a := 0) rfl g0 rfl rfl k12 rfl ?_
      refine gxo_get (a := 329) rfl g0 rfl rfl h9 rfl ?_
      refine ex_ret (r := (some (.inl (v 9)), t0, n, 0)) rfl (fun _ => rfl) ?_
      exact ⟨_, rfl, by rw [cnt_y (show 9 ≤ 12 by decide)]⟩
    · show en_ex _ _ _ _ (1, [(0, gx_r 0), (1, .inl 10)], [.inl 10], t0, n, 0) _
      refine ex_go (S := (166, [(0, gx_r 0), (1, .inl 10)], [], t0, n, 0)) rfl (fun _ => rfl) rfl ?_
      refine ex_go (S := (167, [(0, gx_r 0), (1, .inl 10)], [gx_r 0], t0, n, 0)) rfl (fun _ => rfl) rfl ?_
      refine gxo_ref (a := 0) (c := 139) rfl g0 rfl rfl rfl rfl rfl ?_
      refine gxo_get (a := 139) rfl g0 rfl rfl h10 rfl ?_
      refine ex_ret (r := (some (.inl (v 10)), t0, n, 0)) rfl (fun _ => rfl) ?_
      exact ⟨_, rfl, by rw [cnt_y (show 10 ≤ 12 by decide)]⟩
    · show en_ex _ _ _ _ (1, [(0, gx_r 0), (1, .inl 11)], [.inl 11], t0, n, 0) _
      refine ex_go (S := (174, [(0, gx_r 0), (1, .inl 11)], [], t0, n, 0)) rfl (fun _ => rfl) rfl ?_
      refine ex_go (S := (175, [(0, gx_r 0), (1, .inl 11)], [gx_r 0], t0, n, 0)) rfl (fun _ => rfl) rfl ?_
      refine gxo_ref (a := 0) (c := 22) rfl g0 rfl rfl rfl rfl rfl ?_
      refine gxo_get (a := 22) rfl g0 rfl rfl h11 rfl ?_
      refine ex_ret (r := (some (.inl (v 11)), t0, n, 0)) rfl (fun _ => rfl) ?_
      exact ⟨_, rfl, by rw [cnt_y (show 11 ≤ 12 by decide)]⟩
    · show en_ex _ _ _ _ (1, [(0, gx_r 0), (1, .inl 12)], [.inl 12], t0, n, 0) _
      refine ex_go (S := (182, [(0, gx_r 0), (1, .inl 12)], [], t0, n, 0)) rfl (fun _ => rfl) rfl ?_
      refine ex_go (S := (183, [(0, gx_r 0), (1, .inl 12)], [gx_r 0], t0, n, 0)) rfl (fun _ => rfl) rfl ?_
      refine gxo_ref (a := 0) (c := 1) rfl g0 rfl rfl rfl rfl rfl ?_
      refine gxo_get (a := 1) rfl g0 rfl rfl h12 rfl ?_
      refine ex_ret (r := (some (.inl (v 12)), t0, n, 0)) rfl (fun _ => rfl) ?_
      exact ⟨_, rfl, by rw [cnt_y (show 12 ≤ 12 by decide)]⟩
  · refine gx_swo (tg := 190) rfl hx hx12 rfl rfl (by decide) rfl ?_
    refine ex_go (S := (191, [(0, gx_r 0), (1, .inl x)], [.inl 4294967295], t0, n, 0)) rfl (fun _ => rfl) rfl ?_
    refine ex_ret (r := (some (.inl 4294967295), t0, n, 0)) rfl (fun _ => rfl) ?_
    exact ⟨_, rfl, by rw [cnt_n hx12]⟩
theorem sr_count (d n : Nat) {t0 : en_H} {v : Nat → Nat} {x : Nat} (g0 : ai_HG ah_G t0) (h0 : ai_hv t0 389 0 = some (.inl (v 0))) (h1 : ai_hv t0 389 1 = some (.inl (v 1))) (h2 : ai_hv t0 389 2 = some (.inl (v 2))) (h3 : ai_hv t0 389 3 = some (.inl (v 3))) (h4 : ai_hv t0 389 4 = some (.inl (v 4))) (h5 : ai_hv t0 399 0 = some (.inl (v 5))) (h6 : ai_hv t0 389 6 = some (.inl (v 6))) (h7 : ai_hv t0 389 7 = some (.inl (v 7))) (h8 : ai_hv t0 389 8 = some (.inl (v 8))) (h9 : ai_hv t0 396 0 = some (.inl (v 9))) (h10 : ai_hv t0 399 17 = some (.inl (v 10))) (h11 : ai_hv t0 383 26 = some (.inl (v 11))) (h12 : ai_hv t0 383 2 = some (.inl (v 12))) (hx : x < 4294967296) : ∃ r, en_u (d + 2) 86 [gx_r 383, .inl x] t0 n = some r ∧ ∃ t', r = (some (.inl (cnt v x)), t', n, 0) := by
  refine en_u_ex (d := d + 1) rfl ?_
  show en_ex _ _ _ _ (0, [(0, gx_r 383), (1, .inl x)], [], t0, n, 0) _
  refine ex_go (S := (1, [(0, gx_r 383), (1, .inl x)], [gx_r 383], t0, n, 0)) rfl (fun _ => rfl) rfl ?_
  refine ex_go (S := (2, [(0, gx_r 383), (1, .inl x)], [.inl 0, gx_r 383], t0, n, 0)) rfl (fun _ => rfl) rfl ?_
  refine gx_put rfl g0 rfl rfl (ai_in_h (by first | decide | omega) (by first | decide | omega) (by first | decide | omega)) rfl (fun t121 g121 k121 e121 => ?_)
  have k22 : ai_hv t121 389 0 = some (.inl (v 0)) := (e121 389 0 (by first | decide | omega)).trans h0
  have k23 : ai_hv t121 389 1 = some (.inl (v 1)) := (e121 389 1 (by first | decide | omega)).trans h1
  have k24 : ai_hv t121 389 2 = some (.inl (v 2)) := (e121 389 2 (by first | decide | omega)).trans h2
  have k25 : ai_hv t121 389 3 = some (.inl (v 3)) := (e121 389 3 (by first | decide | omega)).trans h3
  have k26 : ai_hv t121 389 4 = some (.inl (v 4)) := (e121 389 4 (by first | decide | omega)).trans h4
  have k27 : ai_hv t121 399 0 = some (.inl (v 5)) := (e121 399 0 (by first | decide | omega)).trans h5
  have k28 : ai_hv t121 389 6 = some (.inl (v 6)) := (e121 389 6 (by first | decide | omega)).trans h6
  have k29 : ai_hv t121 389 7 = some (.inl (v 7)) := (e121 389 7 (by first | decide | omega)).trans h7
  have k30 : ai_hv t121 389 8 = some (.inl (v 8)) := (e121 389 8 (by first | decide | omega)).trans h8
  have k31 : ai_hv t121 396 0 = some (.inl (v 9)) := (e121 396 0 (by first | decide | omega)).trans h9
  have k32 : ai_hv t121 399 17 = some (.inl (v 10)) := (e121 399 17 (by first | decide | omega)).trans h10
  have k33 : ai_hv t121 383 26 = some (.inl (v 11)) := (e121 383 26 (by first | decide | omega)).trans h11
  have k34 : ai_hv t121 383 2 = some (.inl (v 12)) := (e121 383 2 (by first | decide | omega)).trans h12
  refine ex_go (S := (6, [(0, gx_r 383), (1, .inl x)], [.inl x], t121, n, 0)) rfl (fun _ => rfl) rfl ?_
  by_cases hx12 : x ≤ 12
  · rcases (show x = 0 ∨ x = 1 ∨ x = 2 ∨ x = 3 ∨ x = 4 ∨ x = 5 ∨ x = 6 ∨ x = 7 ∨ x = 8 ∨ x = 9 ∨ x = 10 ∨ x = 11 ∨ x = 12 by omega) with rfl | rfl | rfl | rfl | rfl | rfl | rfl | rfl | rfl | rfl | rfl | rfl | rfl
    · show en_ex _ _ _ _ (6, [(0, gx_r 383), (1, .inl 0)], [.inl 0], t121, n, 0) _
      refine ex_go (S := (72, [(0, gx_r 383), (1, .inl 0)], [], t121, n, 0)) rfl (fun _ => rfl) rfl ?_
      refine ex_go (S := (73, [(0, gx_r 383), (1, .inl 0)], [gx_r 383], t121, n, 0)) rfl (fun _ => rfl) rfl ?_
      refine gx_ref (c := 389) rfl g121 rfl rfl rfl rfl ?_
      refine ex_go (S := (77, [(0, gx_r 383), (1, .inl 0)], [.inl 0, gx_r 389], t121, n, 0)) rfl (fun _ => rfl) rfl ?_
      refine gx_ag (v := .inl (v 0)) (cb := fun c => Nat.beq c 0) rfl (fun _ => rfl) g121 rfl rfl k22 (by first | decide | omega) rfl ?_
      refine ex_ret (r := (some (.inl (v 0)), t121, n, 0)) rfl (fun _ => rfl) ?_
      exact ⟨_, rfl, _, by rw [cnt_y (show 0 ≤ 12 by decide)]⟩
    · show en_ex _ _ _ _ (6, [(0, gx_r 383), (1, .inl 1)], [.inl 1], t121, n, 0) _
      refine ex_go (S := (79, [(0, gx_r 383), (1, .inl 1)], [], t121, n, 0)) rfl (fun _ => rfl) rfl ?_
      refine ex_go (S := (80, [(0, gx_r 383), (1, .inl 1)], [gx_r 383], t121, n, 0)) rfl (fun _ => rfl) rfl ?_
      refine gx_ref (c := 389) rfl g121 rfl rfl rfl rfl ?_
      refine ex_go (S := (84, [(0, gx_r 383), (1, .inl 1)], [.inl 1, gx_r 389], t121, n, 0)) rfl (fun _ => rfl) rfl ?_
      refine gx_ag (v := .inl (v 1)) (cb := fun c => Nat.beq c 0) rfl (fun _ => rfl) g121 rfl rfl k23 (by first | decide | omega) rfl ?_
      refine ex_ret (r := (some (.inl (v 1)), t121, n, 0)) rfl (fun _ => rfl) ?_
      exact ⟨_, rfl, _, by rw [cnt_y (show 1 ≤ 12 by decide)]⟩
    · show en_ex _ _ _ _ (6, [(0, gx_r 383), (1, .inl 2)], [.inl 2], t121, n, 0) _
      refine ex_go (S := (86, [(0, gx_r 383), (1, .inl 2)], [], t121, n, 0)) rfl (fun _ => rfl) rfl ?_
      refine ex_go (S := (87, [(0, gx_r 383), (1, .inl 2)], [gx_r 383], t121, n, 0)) rfl (fun _ => rfl) rfl ?_
      obtain ⟨_, r35, rfl⟩ := sr_things d n g121 k24
      refine gx_call1 rfl rfl g121 rfl rfl r35 rfl ?_
      show en_ex _ _ _ _ (90, [(0, gx_r 383), (1, .inl 2)], [.inl (v 2)], t121, n, 0) _
      refine ex_ret (r := (some (.inl (v 2)), t121, n, 0)) rfl (fun _ => rfl) ?_
      exact ⟨_, rfl, _, by rw [cnt_y (show 2 ≤ 12 by decide)]⟩
    · show en_ex _ _ _ _ (6, [(0, gx_r 383), (1, .inl 3)], [.inl 3], t121, n, 0) _
      refine ex_go (S := (91, [(0, gx_r 383), (1, .inl 3)], [], t121, n, 0)) rfl (fun _ => rfl) rfl ?_
      refine ex_go (S := (92, [(0, gx_r 383), (1, .inl 3)], [gx_r 383], t121, n, 0)) rfl (fun _ => rfl) rfl ?_
      refine gx_ref (c := 389) rfl g121 rfl rfl rfl rfl ?_
      refine ex_go (S := (96, [(0, gx_r 383), (1, .inl 3)], [.inl 3, gx_r 389], t121, n, 0)) rfl (fun _ => rfl) rfl ?_
      refine gx_ag (v := .inl (v 3)) (cb := fun c => Nat.beq c 0) rfl (fun _ => rfl) g121 rfl rfl k25 (by first | decide | omega) rfl ?_
      refine ex_ret (r := (some (.inl (v 3)), t121, n, 0)) rfl (fun _ => rfl) ?_
      exact ⟨_, rfl, _, by rw [cnt_y (show 3 ≤ 12 by decide)]⟩
    · show en_ex _ _ _ _ (6, [(0, gx_r 383), (1, .inl 4)], [.inl 4], t121, n, 0) _
      refine ex_go (S := (98, [(0, gx_r 383), (1, .inl 4)], [], t121, n, 0)) rfl (fun _ => rfl) rfl ?_
      refine ex_go (S := (99, [(0, gx_r 383), (1, .inl 4)], [gx_r 383], t121, n, 0)) rfl (fun _ => rfl) rfl ?_
      obtain ⟨_, r36, rfl⟩ := sr_crews d n g121 k26
      refine gx_call1 rfl rfl g121 rfl rfl r36 rfl ?_
      show en_ex _ _ _ _ (102, [(0, gx_r 383), (1, .inl 4)], [.inl (v 4)], t121, n, 0) _
      refine ex_ret (r := (some (.inl (v 4)), t121, n, 0)) rfl (fun _ => rfl) ?_
      exact ⟨_, rfl, _, by rw [cnt_y (show 4 ≤ 12 by decide)]⟩
    · show en_ex _ _ _ _ (6, [(0, gx_r 383), (1, .inl 5)], [.inl 5], t121, n, 0) _
      refine ex_go (S := (103, [(0, gx_r 383), (1, .inl 5)], [], t121, n, 0)) rfl (fun _ => rfl) rfl ?_
      refine ex_go (S := (104, [(0, gx_r 383), (1, .inl 5)], [gx_r 383], t121, n, 0)) rfl (fun _ => rfl) rfl ?_
      refine gx_ref (c := 399) rfl g121 rfl rfl rfl rfl ?_
      refine ex_go (S := (108, [(0, gx_r 383), (1, .inl 5)], [.inl 0, gx_r 399], t121, n, 0)) rfl (fun _ => rfl) rfl ?_
      refine gx_ag (v := .inl (v 5)) (cb := fun c => Nat.beq c 0) rfl (fun _ => rfl) g121 rfl rfl k27 (by first | decide | omega) rfl ?_
      refine ex_ret (r := (some (.inl (v 5)), t121, n, 0)) rfl (fun _ => rfl) ?_
      exact ⟨_, rfl, _, by rw [cnt_y (show 5 ≤ 12 by decide)]⟩
    · show en_ex _ _ _ _ (6, [(0, gx_r 383), (1, .inl 6)], [.inl 6], t121, n, 0) _
      refine ex_go (S := (110, [(0, gx_r 383), (1, .inl 6)], [], t121, n, 0)) rfl (fun _ => rfl) rfl ?_
      refine ex_go (S := (111, [(0, gx_r 383), (1, .inl 6)], [gx_r 383], t121, n, 0)) rfl (fun _ => rfl) rfl ?_
      refine gx_ref (c := 389) rfl g121 rfl rfl rfl rfl ?_
      refine ex_go (S := (116, [(0, gx_r 383), (1, .inl 6)], [.inl 6, gx_r 389], t121, n, 0)) rfl (fun _ => rfl) rfl ?_
      refine gx_ag (v := .inl (v 6)) (cb := fun c => Nat.beq c 0) rfl (fun _ => rfl) g121 rfl rfl k28 (by first | decide | omega) rfl ?_
      refine ex_ret (r := (some (.inl (v 6)), t121, n, 0)) rfl (fun _ => rfl) ?_
      exact ⟨_, rfl, _, by rw [cnt_y (show 6 ≤ 12 by decide)]⟩
    · show en_ex _ _ _ _ (6, [(0, gx_r 383), (1, .inl 7)], [.inl 7], t121, n, 0) _
      refine ex_go (S := (118, [(0, gx_r 383), (1, .inl 7)], [], t121, n, 0)) rfl (fun _ => rfl) rfl ?_
      refine ex_go (S := (119, [(0, gx_r 383), (1, .inl 7)], [gx_r 383], t121, n, 0)) rfl (fun _ => rfl) rfl ?_
      refine gx_ref (c := 389) rfl g121 rfl rfl rfl rfl ?_
      refine ex_go (S := (124, [(0, gx_r 383), (1, .inl 7)], [.inl 7, gx_r 389], t121, n, 0)) rfl (fun _ => rfl) rfl ?_
      refine gx_ag (v := .inl (v 7)) (cb := fun c => Nat.beq c 0) rfl (fun _ => rfl) g121 rfl rfl k29 (by first | decide | omega) rfl ?_
      refine ex_ret (r := (some (.inl (v 7)), t121, n, 0)) rfl (fun _ => rfl) ?_
      exact ⟨_, rfl, _, by rw [cnt_y (show 7 ≤ 12 by decide)]⟩
    · show en_ex _ _ _ _ (6, [(0, gx_r 383), (1, .inl 8)], [.inl 8], t121, n, 0) _
      refine ex_go (S := (126, [(0, gx_r 383), (1, .inl 8)], [], t121, n, 0)) rfl (fun _ => rfl) rfl ?_
      refine ex_go (S := (127, [(0, gx_r 383), (1, .inl 8)], [gx_r 383], t121, n, 0)) rfl (fun _ => rfl) rfl ?_
      refine gx_ref (c := 389) rfl g121 rfl rfl rfl rfl ?_
      refine ex_go (S := (132, [(0, gx_r 383), (1, .inl 8)], [.inl 8, gx_r 389], t121, n, 0)) rfl (fun _ => rfl) rfl ?_
      refine gx_ag (v := .inl (v 8)) (cb := fun c => Nat.beq c 0) rfl (fun _ => rfl) g121 rfl rfl k30 (by first | decide | omega) rfl ?_
      refine ex_ret (r := (some (.inl (v 8)), t121, n, 0)) rfl (fun _ => rfl) ?_
      exact ⟨_, rfl, _, by rw [cnt_y (show 8 ≤ 12 by decide)]⟩
    · show en_ex _ _ _ _ (6, [(0, gx_r 383), (1, .inl 9)], [.inl 9], t121, n, 0) _
      refine ex_go (S := (134, [(0, gx_r 383), (1, .inl 9)], [], t121, n, 0)) rfl (fun _ => rfl) rfl ?_
      refine ex_go (S := (135, [(0, gx_r 383), (1, .inl 9)], [gx_r 383], t121, n, 0)) rfl (fun _ => rfl) rfl ?_
      refine gx_ref (c := 396) rfl g121 rfl rfl rfl rfl ?_
      refine ex_go (S := (139, [(0, gx_r 383), (1, .inl 9)], [.inl 0, gx_r 396], t121, n, 0)) rfl (fun _ => rfl) rfl ?_
      refine gx_ag (v := .inl (v 9)) (cb := fun c => Nat.beq c 0) rfl (fun _ => rfl) g121 rfl rfl k31 (by first | decide | omega) rfl ?_
      refine ex_ret (r := (some (.inl (v 9)), t121, n, 0)) rfl (fun _ => rfl) ?_
      exact ⟨_, rfl, _, by rw [cnt_y (show 9 ≤ 12 by decide)]⟩
    · show en_ex _ _ _ _ (6, [(0, gx_r 383), (1, .inl 10)], [.inl 10], t121, n, 0) _
      refine ex_go (S := (141, [(0, gx_r 383), (1, .inl 10)], [], t121, n, 0)) rfl (fun _ => rfl) rfl ?_
      refine ex_go (S := (142, [(0, gx_r 383), (1, .inl 10)], [gx_r 383], t121, n, 0)) rfl (fun _ => rfl) rfl ?_
      refine gx_ref (c := 399) rfl g121 rfl rfl rfl rfl ?_
      refine ex_go (S := (147, [(0, gx_r 383), (1, .inl 10)], [.inl 17, gx_r 399], t121, n, 0)) rfl (fun _ => rfl) rfl ?_
      refine gx_ag (v := .inl (v 10)) (cb := fun c => Nat.beq c 0) rfl (fun _ => rfl) g121 rfl rfl k32 (by first | decide | omega) rfl ?_
      refine ex_ret (r := (some (.inl (v 10)), t121, n, 0)) rfl (fun _ => rfl) ?_
      exact ⟨_, rfl, _, by rw [cnt_y (show 10 ≤ 12 by decide)]⟩
    · show en_ex _ _ _ _ (6, [(0, gx_r 383), (1, .inl 11)], [.inl 11], t121, n, 0) _
      refine ex_go (S := (149, [(0, gx_r 383), (1, .inl 11)], [], t121, n, 0)) rfl (fun _ => rfl) rfl ?_
      refine ex_go (S := (150, [(0, gx_r 383), (1, .inl 11)], [gx_r 383], t121, n, 0)) rfl (fun _ => rfl) rfl ?_
      refine gx_get rfl g121 rfl k33 rfl ?_
      refine ex_ret (r := (some (.inl (v 11)), t121, n, 0)) rfl (fun _ => rfl) ?_
      exact ⟨_, rfl, _, by rw [cnt_y (show 11 ≤ 12 by decide)]⟩
    · show en_ex _ _ _ _ (6, [(0, gx_r 383), (1, .inl 12)], [.inl 12], t121, n, 0) _
      refine ex_go (S := (154, [(0, gx_r 383), (1, .inl 12)], [], t121, n, 0)) rfl (fun _ => rfl) rfl ?_
      refine ex_go (S := (155, [(0, gx_r 383), (1, .inl 12)], [gx_r 383], t121, n, 0)) rfl (fun _ => rfl) rfl ?_
      refine gx_get rfl g121 rfl k34 rfl ?_
      refine ex_ret (r := (some (.inl (v 12)), t121, n, 0)) rfl (fun _ => rfl) ?_
      exact ⟨_, rfl, _, by rw [cnt_y (show 12 ≤ 12 by decide)]⟩
  · refine gx_swo (tg := 159) rfl hx hx12 rfl rfl (by decide) rfl ?_
    refine ex_go (S := (160, [(0, gx_r 383), (1, .inl x)], [.inl 4294967295], t121, n, 0)) rfl (fun _ => rfl) rfl ?_
    refine ex_ret (r := (some (.inl 4294967295), t121, n, 0)) rfl (fun _ => rfl) ?_
    exact ⟨_, rfl, _, by rw [cnt_n hx12]⟩
end SSZ
