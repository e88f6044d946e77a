section SSC
/-- A is a stand's cell, its rows behind it -/
noncomputable def StA (A : Nat) : Prop := A ≤ 371 ∧ (∃ g, ah_G A = some g ∧ ((!g.1) && Nat.beq g.2.1 7) = true ∧ g.2.2.1 = 7 ∧ ai_run g.2.2.2 0 = some (.inl (0, 4294967295)) ∧ ai_run g.2.2.2 1 = some (.inr (.inr [A + 1 + 100])) ∧ ai_run g.2.2.2 2 = some (.inr (.inr [A + 2 + 100])) ∧ ai_run g.2.2.2 3 = some (.inr (.inr [A + 3 + 100])) ∧ ai_run g.2.2.2 4 = some (.inr (.inr [A + 4 + 100])) ∧ ai_run g.2.2.2 5 = some (.inr (.inr [A + 5 + 100])) ∧ ai_run g.2.2.2 6 = some (.inr (.inr [A + 6 + 100]))) ∧ ah_G (A + 1) = some (true, 0, 6, [(6, .inl (2147483648, 2147483711))]) ∧ ah_G (A + 2) = some (true, 0, 2, [(2, .inl (0, 4294967295))]) ∧ ah_G (A + 3) = some (true, 0, 2, [(2, .inl (0, 4294967295))]) ∧ ah_G (A + 4) = some (true, 2, 2, [(2, .inl (2147483648, 2147483649))]) ∧ ah_G (A + 5) = some (true, 2, 2, [(2, .inl (2147483648, 2147483649))]) ∧ ah_G (A + 6) = some (true, 0, 2, [(2, .inl (2147483648, 2147483711))])
theorem StA_8 : StA 8 := ⟨by decide, ⟨_, rfl, rfl, rfl, rfl, rfl, rfl, rfl, rfl, rfl, rfl⟩, rfl, rfl, rfl, rfl, rfl, rfl⟩
theorem StA_15 : StA 15 := ⟨by decide, ⟨_, rfl, rfl, rfl, rfl, rfl, rfl, rfl, rfl, rfl, rfl⟩, rfl, rfl, rfl, rfl, rfl, rfl⟩
theorem StA_24 : StA 24 := ⟨by decide, ⟨_, rfl, rfl, rfl, rfl, rfl, rfl, rfl, rfl, rfl, rfl⟩, rfl, rfl, rfl, rfl, rfl, rfl⟩
theorem StA_31 : StA 31 := ⟨by decide, ⟨_, rfl, rfl, rfl, rfl, rfl, rfl, rfl, rfl, rfl, rfl⟩, rfl, rfl, rfl, rfl, rfl, rfl⟩
theorem StA_38 : StA 38 := ⟨by decide, ⟨_, rfl, rfl, rfl, rfl, rfl, rfl, rfl, rfl, rfl, rfl⟩, rfl, rfl, rfl, rfl, rfl, rfl⟩
theorem StA_45 : StA 45 := ⟨by decide, ⟨_, rfl, rfl, rfl, rfl, rfl, rfl, rfl, rfl, rfl, rfl⟩, rfl, rfl, rfl, rfl, rfl, rfl⟩
theorem StA_52 : StA 52 := ⟨by decide, ⟨_, rfl, rfl, rfl, rfl, rfl, rfl, rfl, rfl, rfl, rfl⟩, rfl, rfl, rfl, rfl, rfl, rfl⟩
theorem StA_59 : StA 59 := ⟨by decide, ⟨_, rfl, rfl, rfl, rfl, rfl, rfl, rfl, rfl, rfl, rfl⟩, rfl, rfl, rfl, rfl, rfl, rfl⟩
theorem StA_66 : StA 66 := ⟨by decide, ⟨_, rfl, rfl, rfl, rfl, rfl, rfl, rfl, rfl, rfl, rfl⟩, rfl, rfl, rfl, rfl, rfl, rfl⟩
theorem StA_73 : StA 73 := ⟨by decide, ⟨_, rfl, rfl, rfl, rfl, rfl, rfl, rfl, rfl, rfl, rfl⟩, rfl, rfl, rfl, rfl, rfl, rfl⟩
theorem StA_80 : StA 80 := ⟨by decide, ⟨_, rfl, rfl, rfl, rfl, rfl, rfl, rfl, rfl, rfl, rfl⟩, rfl, rfl, rfl, rfl, rfl, rfl⟩
theorem StA_87 : StA 87 := ⟨by decide, ⟨_, rfl, rfl, rfl, rfl, rfl, rfl, rfl, rfl, rfl, rfl⟩, rfl, rfl, rfl, rfl, rfl, rfl⟩
theorem StA_94 : StA 94 := ⟨by decide, ⟨_, rfl, rfl, rfl, rfl, rfl, rfl, rfl, rfl, rfl, rfl⟩, rfl, rfl, rfl, rfl, rfl, rfl⟩
theorem StA_101 : StA 101 := ⟨by decide, ⟨_, rfl, rfl, rfl, rfl, rfl, rfl, rfl, rfl, rfl, rfl⟩, rfl, rfl, rfl, rfl, rfl, rfl⟩
theorem StA_108 : StA 108 := ⟨by decide, ⟨_, rfl, rfl, rfl, rfl, rfl, rfl, rfl, rfl, rfl, rfl⟩, rfl, rfl, rfl, rfl, rfl, rfl⟩
theorem StA_115 : StA 115 := ⟨by decide, ⟨_, rfl, rfl, rfl, rfl, rfl, rfl, rfl, rfl, rfl, rfl⟩, rfl, rfl, rfl, rfl, rfl, rfl⟩
theorem StA_122 : StA 122 := ⟨by decide, ⟨_, rfl, rfl, rfl, rfl, rfl, rfl, rfl, rfl, rfl, rfl⟩, rfl, rfl, rfl, rfl, rfl, rfl⟩
theorem StA_129 : StA 129 := ⟨by decide, ⟨_, rfl, rfl, rfl, rfl, rfl, rfl, rfl, rfl, rfl, rfl⟩, rfl, rfl, rfl, rfl, rfl, rfl⟩
theorem StA_335 : StA 335 := ⟨by decide, ⟨_, rfl, rfl, rfl, rfl, rfl, rfl, rfl, rfl, rfl, rfl⟩, rfl, rfl, rfl, rfl, rfl, rfl⟩
theorem StA_347 : StA 347 := ⟨by decide, ⟨_, rfl, rfl, rfl, rfl, rfl, rfl, rfl, rfl, rfl, rfl⟩, rfl, rfl, rfl, rfl, rfl, rfl⟩
theorem StA_359 : StA 359 := ⟨by decide, ⟨_, rfl, rfl, rfl, rfl, rfl, rfl, rfl, rfl, rfl, rfl⟩, rfl, rfl, rfl, rfl, rfl, rfl⟩
theorem StA_371 : StA 371 := ⟨by decide, ⟨_, rfl, rfl, rfl, rfl, rfl, rfl, rfl, rfl, rfl, rfl⟩, rfl, rfl, rfl, rfl, rfl, rfl⟩
theorem StA_ring {k : Nat} (h : k < 16) : StA (24 + 7 * k) := by
  rcases (show k = 0 ∨ k = 1 ∨ k = 2 ∨ k = 3 ∨ k = 4 ∨ k = 5 ∨ k = 6 ∨ k = 7 ∨ k = 8 ∨ k = 9 ∨ k = 10 ∨ k = 11 ∨ k = 12 ∨ k = 13 ∨ k = 14 ∨ k = 15 by omega) with rfl | rfl | rfl | rfl | rfl | rfl | rfl | rfl | rfl | rfl | rfl | rfl | rfl | rfl | rfl | rfl
  · exact StA_24
  · exact StA_31
  · exact StA_38
  · exact StA_45
  · exact StA_52
  · exact StA_59
  · exact StA_66
  · exact StA_73
  · exact StA_80
  · exact StA_87
  · exact StA_94
  · exact StA_101
  · exact StA_108
  · exact StA_115
  · exact StA_122
  · exact StA_129
/-- two stands apart -/
noncomputable def StD (A B : Nat) : Prop := A + 7 ≤ B ∨ B + 7 ≤ A
section
variable {oc : Option (List en_V)} {f : en_F} {code : Nat → Option en_I} {stop : Nat → Bool} {P : en_O → Prop}
variable {pc nx : Nat} {ls : en_L} {st : List en_V} {t : en_H} {n sl : Nat}
theorem st_ref {i x1 x2 A : Nat} (hc : code pc = some (.getfield i, nx, x1, x2)) (hG : ai_HG ah_G t) (hA : StA A) (hx2 : x2 % 16 = 7) (h1 : 1 ≤ x1) (h6 : x1 ≤ 6) (hp : stop nx = false) (h : en_ex oc f code stop (nx, ls, gx_r (A + x1) :: st, t, n, sl) P) : en_ex oc f code stop (pc, ls, gx_r A :: st, t, n, sl) P := by
  obtain ⟨-, ⟨g, e1, e2, e3, -, r1, r2, r3, r4, r5, r6⟩, -⟩ := hA
  refine gxo_ref (c := A + x1) hc hG e1 (by rw [hx2]; exact e2) (by rw [e3]; exact Nat.ble_eq_true_of_le (by first | decide | omega)) ?_ hp h
  rcases (show x1 = 1 ∨ x1 = 2 ∨ x1 = 3 ∨ x1 = 4 ∨ x1 = 5 ∨ x1 = 6 by omega) with rfl | rfl | rfl | rfl | rfl | rfl
  · exact r1
  · exact r2
  · exact r3
  · exact r4
  · exact r5
  · exact r6
theorem st_get {i x2 A v : Nat} (hc : code pc = some (.getfield i, nx, 0, x2)) (hG : ai_HG ah_G t) (hA : StA A) (hx2 : x2 % 16 = 7) (hv : ai_hv t A 0 = some (.inl v)) (hp : stop nx = false) (h : en_ex oc f code stop (nx, ls, .inl v :: st, t, n, sl) P) : en_ex oc f code stop (pc, ls, gx_r A :: st, t, n, sl) P := by
  obtain ⟨-, ⟨g, e1, e2, -⟩, -⟩ := hA
  exact gxo_get hc hG e1 (by rw [hx2]; exact e2) hv hp h
theorem st_put {i x2 A v : Nat} (hc : code pc = some (.putfield i, nx, 0, x2)) (hG : ai_HG ah_G t) (hA : StA A) (hx2 : x2 % 16 = 7) (hx3 : x2 / 16 % 4 = 0) (hv : v < 4294967296) (hp : stop nx = false) (h : ∀ t' : en_H, ai_HG ah_G t' → ai_hv t' A 0 = some (.inl v) → (∀ c j, ¬ (c = A ∧ j = 0) → ai_hv t' c j = ai_hv t c j) → en_ex oc f code stop (nx, ls, st, t', n, sl) P) : en_ex oc f code stop (pc, ls, .inl v :: gx_r A :: st, t, n, sl) P := by
  obtain ⟨-, ⟨g, e1, e2, e3, e4, -⟩, -⟩ := hA
  rw [Bool.and_eq_true] at e2
  refine gxo_put hc hG e1 ?_ e4 (gx_full hv) hp h
  rw [hx2, hx3, e3, Bool.and_eq_true, Bool.and_eq_true, Bool.and_eq_true]
  exact ⟨e2.1, ⟨e2.2, rfl⟩, rfl⟩
end
theorem st_ld {t : en_H} {c i lo up L : Nat} {k : Nat} (hG : ai_HG ah_G t) (hg : ah_G c = some (true, k, L, [(L, .inl (lo, up))])) (hi : i < L) : ∃ m, ai_hv t c i = some (.inl m) ∧ m < 4294967296 ∧ lo ≤ ai_off m ∧ ai_off m ≤ up := by
  obtain ⟨v, h1, m, rfl, h2, h3, h4⟩ := gx_sl hG hg hi (gx_run1 hi)
  exact ⟨m, h1, h2, h3, h4⟩
theorem st_rh {m lo hi : Nat} (h1 : m < 4294967296) (h2 : lo ≤ ai_off m) (h3 : ai_off m ≤ hi) : ai_rh (.inl (lo, hi)) (.inl m) := ⟨m, rfl, h1, h2, h3⟩
theorem st_b1 {m : Nat} (h2 : 2147483648 ≤ ai_off m) (h3 : ai_off m ≤ 2147483649) (h1 : m < 4294967296) : m ≤ 1 := by unfold ai_off at h2 h3; omega
theorem sc_take (d n : Nat) {t0 : en_H} {A B : Nat} (g0 : ai_HG ah_G t0) (hA : StA A) (hB : StA B) (hD : StD A B) : ∃ r, en_u (d + 1) 162 [gx_r A, gx_r B] t0 n = some r ∧ ∃ t', r = (none, t', n, 0) ∧ ai_HG ah_G t' ∧ (∀ c i, ¬ (A ≤ c ∧ c ≤ A + 6) → ai_hv t' c i = ai_hv t0 c i) ∧ ai_hv t' A 0 = ai_hv t0 B 0 ∧ (∀ i, i < 6 → ai_hv t' (A + 1) i = ai_hv t0 (B + 1) i) ∧ ∀ j i, 2 ≤ j → j ≤ 6 → i < 2 → ai_hv t' (A + j) i = ai_hv t0 (B + j) i := by
  have hA9 := hA
  have hB9 := hB
  obtain ⟨-, -, hGA1, hGA2, hGA3, hGA4, hGA5, hGA6⟩ := hA9
  obtain ⟨-, ⟨gB, eB1, -, eB3, eB4, -⟩, hGB1, hGB2, hGB3, hGB4, hGB5, hGB6⟩ := hB9
  have hD : A + 7 ≤ B ∨ B + 7 ≤ A := hD
  obtain ⟨mB, kB, mBb⟩ := gx_any (c := B) (i := 0) g0 eB1 (by rw [eB3]; rfl) eB4
  refine en_u_ex rfl ?_
  show en_ex _ _ _ _ (0, [(0, gx_r A), (1, gx_r B)], [], t0, n, 0) _
  refine ex_go (S := (1, [(0, gx_r A), (1, gx_r B)], [gx_r A], t0, n, 0)) rfl (fun _ => rfl) rfl ?_
  refine ex_go (S := (2, [(0, gx_r A), (1, gx_r B)], [gx_r B, gx_r A], t0, n, 0)) rfl (fun _ => rfl) rfl ?_
  refine st_get rfl g0 hB rfl kB rfl ?_
  refine st_put rfl g0 hA rfl rfl (by first | decide | omega) rfl (fun t123 g123 k123 e123 => ?_)
  refine ex_go (S := (9, [(0, gx_r A), (1, gx_r B)], [.inl 0], t123, n, 0)) rfl (fun _ => rfl) rfl ?_
  refine ex_go (S := (10, [(2, .inl 0), (0, gx_r A), (1, gx_r B)], [], t123, n, 0)) rfl (fun _ => rfl) rfl ?_
  refine ex_go (S := (11, [(2, .inl 0), (0, gx_r A), (1, gx_r B)], [.inl 0], t123, n, 0)) rfl (fun _ => rfl) rfl ?_
  refine ex_go (S := (13, [(2, .inl 0), (0, gx_r A), (1, gx_r B)], [.inl 6, .inl 0], t123, n, 0)) rfl (fun _ => rfl) rfl ?_
  refine ex_go (S := (16, [(2, .inl 0), (0, gx_r A), (1, gx_r B)], [], t123, n, 0)) rfl (fun _ => rfl) rfl ?_
  refine ex_go (S := (17, [(2, .inl 0), (0, gx_r A), (1, gx_r B)], [gx_r A], t123, n, 0)) rfl (fun _ => rfl) rfl ?_
  refine st_ref (A := A) rfl g123 hA rfl (by decide) (by decide) rfl ?_
  refine ex_go (S := (21, [(2, .inl 0), (0, gx_r A), (1, gx_r B)], [.inl 0, gx_r (A + 1)], t123, n, 0)) rfl (fun _ => rfl) rfl ?_
  refine ex_go (S := (22, [(2, .inl 0), (0, gx_r A), (1, gx_r B)], [gx_r B, .inl 0, gx_r (A + 1)], t123, n, 0)) rfl (fun _ => rfl) rfl ?_
  refine st_ref (A := B) rfl g123 hB rfl (by decide) (by decide) rfl ?_
  refine ex_go (S := (26, [(2, .inl 0), (0, gx_r A), (1, gx_r B)], [.inl 0, gx_r (B + 1), .inl 0, gx_r (A + 1)], t123, n, 0)) rfl (fun _ => rfl) rfl ?_
  obtain ⟨m24, k25, m24a, m24b, m24c⟩ := st_ld (i := 0) g123 hGB1 (by decide)
  refine gx_ag (v := .inl m24) (cb := fun c => Nat.beq c 0) rfl (fun _ => rfl) g123 hGB1 rfl k25 (by first | decide | omega) rfl ?_
  refine gx_ap rfl (fun _ => rfl) g123 hGA1 rfl rfl (show 0 < 6 by decide) (gx_run1 (by decide)) (st_rh m24a m24b m24c) rfl (fun t126 g126 k126 e126 => ?_)
  refine ex_go (S := (31, [(2, .inl 1), (0, gx_r A), (1, gx_r B)], [], t126, n, 0)) rfl (fun _ => rfl) rfl ?_
  refine ex_go (S := (10, [(2, .inl 1), (0, gx_r A), (1, gx_r B)], [], t126, n, 0)) rfl (fun _ => rfl) rfl ?_
  refine ex_go (S := (11, [(2, .inl 1), (0, gx_r A), (1, gx_r B)], [.inl 1], t126, n, 0)) rfl (fun _ => rfl) rfl ?_
  refine ex_go (S := (13, [(2, .inl 1), (0, gx_r A), (1, gx_r B)], [.inl 6, .inl 1], t126, n, 0)) rfl (fun _ => rfl) rfl ?_
  refine ex_go (S := (16, [(2, .inl 1), (0, gx_r A), (1, gx_r B)], [], t126, n, 0)) rfl (fun _ => rfl) rfl ?_
  refine ex_go (S := (17, [(2, .inl 1), (0, gx_r A), (1, gx_r B)], [gx_r A], t126, n, 0)) rfl (fun _ => rfl) rfl ?_
  refine st_ref (A := A) rfl g126 hA rfl (by decide) (by decide) rfl ?_
  refine ex_go (S := (21, [(2, .inl 1), (0, gx_r A), (1, gx_r B)], [.inl 1, gx_r (A + 1)], t126, n, 0)) rfl (fun _ => rfl) rfl ?_
  refine ex_go (S := (22, [(2, .inl 1), (0, gx_r A), (1, gx_r B)], [gx_r B, .inl 1, gx_r (A + 1)], t126, n, 0)) rfl (fun _ => rfl) rfl ?_
  refine st_ref (A := B) rfl g126 hB rfl (by decide) (by decide) rfl ?_
  refine ex_go (S := (26, [(2, .inl 1), (0, gx_r A), (1, gx_r B)], [.inl 1, gx_r (B + 1), .inl 1, gx_r (A + 1)], t126, n, 0)) rfl (fun _ => rfl) rfl ?_
  obtain ⟨m27, k28, m27a, m27b, m27c⟩ := st_ld (i := 1) g126 hGB1 (by decide)
  refine gx_ag (v := .inl m27) (cb := fun c => Nat.beq c 0) rfl (fun _ => rfl) g126 hGB1 rfl k28 (by first | decide | omega) rfl ?_
  refine gx_ap rfl (fun _ => rfl) g126 hGA1 rfl rfl (show 1 < 6 by decide) (gx_run1 (by decide)) (st_rh m27a m27b m27c) rfl (fun t129 g129 k129 e129 => ?_)
  refine ex_go (S := (31, [(2, .inl 2), (0, gx_r A), (1, gx_r B)], [], t129, n, 0)) rfl (fun _ => rfl) rfl ?_
  refine ex_go (S := (10, [(2, .inl 2), (0, gx_r A), (1, gx_r B)], [], t129, n, 0)) rfl (fun _ => rfl) rfl ?_
  refine ex_go (S := (11, [(2, .inl 2), (0, gx_r A), (1, gx_r B)], [.inl 2], t129, n, 0)) rfl (fun _ => rfl) rfl ?_
  refine ex_go (S := (13, [(2, .inl 2), (0, gx_r A), (1, gx_r B)], [.inl 6, .inl 2], t129, n, 0)) rfl (fun _ => rfl) rfl ?_
  refine ex_go (S := (16, [(2, .inl 2), (0, gx_r A), (1, gx_r B)], [], t129, n, 0)) rfl (fun _ => rfl) rfl ?_
  refine ex_go (S := (17, [(2, .inl 2), (0, gx_r A), (1, gx_r B)], [gx_r A], t129, n, 0)) rfl (fun _ => rfl) rfl ?_
  refine st_ref (A := A) rfl g129 hA rfl (by decide) (by decide) rfl ?_
  refine ex_go (S := (21, [(2, .inl 2), (0, gx_r A), (1, gx_r B)], [.inl 2, gx_r (A + 1)], t129, n, 0)) rfl (fun _ => rfl) rfl ?_
  refine ex_go (S := (22, [(2, .inl 2), (0, gx_r A), (1, gx_r B)], [gx_r B, .inl 2, gx_r (A + 1)], t129, n, 0)) rfl (fun _ => rfl) rfl ?_
  refine st_ref (A := B) rfl g129 hB rfl (by decide) (by decide) rfl ?_
  refine ex_go (S := (26, [(2, .inl 2), (0, gx_r A), (1, gx_r B)], [.inl 2, gx_r (B + 1), .inl 2, gx_r (A + 1)], t129, n, 0)) rfl (fun _ => rfl) rfl ?_
  obtain ⟨m30, k31, m30a, m30b, m30c⟩ := st_ld (i := 2) g129 hGB1 (by decide)
  refine gx_ag (v := .inl m30) (cb := fun c => Nat.beq c 0) rfl (fun _ => rfl) g129 hGB1 rfl k31 (by first | decide | omega) rfl ?_
  refine gx_ap rfl (fun _ => rfl) g129 hGA1 rfl rfl (show 2 < 6 by decide) (gx_run1 (by decide)) (st_rh m30a m30b m30c) rfl (fun t132 g132 k132 e132 => ?_)
  refine ex_go (S := (31, [(2, .inl 3), (0, gx_r A), (1, gx_r B)], [], t132, n, 0)) rfl (fun _ => rfl) rfl ?_
  refine ex_go (S := (10, [(2, .inl 3), (0, gx_r A), (1, gx_r B)], [], t132, n, 0)) rfl (fun _ => rfl) rfl ?_
  refine ex_go (S := (11, [(2, .inl 3), (0, gx_r A), (1, gx_r B)], [.inl 3], t132, n, 0)) rfl (fun _ => rfl) rfl ?_
  refine ex_go (S := (13, [(2, .inl 3), (0, gx_r A), (1, gx_r B)], [.inl 6, .inl 3], t132, n, 0)) rfl (fun _ => rfl) rfl ?_
  refine ex_go (S := (16, [(2, .inl 3), (0, gx_r A), (1, gx_r B)], [], t132, n, 0)) rfl (fun _ => rfl) rfl ?_
  refine ex_go (S := (17, [(2, .inl 3), (0, gx_r A), (1, gx_r B)], [gx_r A], t132, n, 0)) rfl (fun _ => rfl) rfl ?_
  refine st_ref (A := A) rfl g132 hA rfl (by decide) (by decide) rfl ?_
  refine ex_go (S := (21, [(2, .inl 3), (0, gx_r A), (1, gx_r B)], [.inl 3, gx_r (A + 1)], t132, n, 0)) rfl (fun _ => rfl) rfl ?_
  refine ex_go (S := (22, [(2, .inl 3), (0, gx_r A), (1, gx_r B)], [gx_r B, .inl 3, gx_r (A + 1)], t132, n, 0)) rfl (fun _ => rfl) rfl ?_
  refine st_ref (A := B) rfl g132 hB rfl (by decide) (by decide) rfl ?_
  refine ex_go (S := (26, [(2, .inl 3), (0, gx_r A), (1, gx_r B)], [.inl 3, gx_r (B + 1), .inl 3, gx_r (A + 1)], t132, n, 0)) rfl (fun _ => rfl) rfl ?_
  obtain ⟨m33, k34, m33a, m33b, m33c⟩ := st_ld (i := 3) g132 hGB1 (by decide)
  refine gx_ag (v := .inl m33) (cb := fun c => Nat.beq c 0) rfl (fun _ => rfl) g132 hGB1 rfl k34 (by first | decide | omega) rfl ?_
  refine gx_ap rfl (fun _ => rfl) g132 hGA1 rfl rfl (show 3 < 6 by decide) (gx_run1 (by decide)) (st_rh m33a m33b m33c) rfl (fun t135 g135 k135 e135 => ?_)
  refine ex_go (S := (31, [(2, .inl 4), (0, gx_r A), (1, gx_r B)], [], t135, n, 0)) rfl (fun _ => rfl) rfl ?_
  refine ex_go (S := (10, [(2, .inl 4), (0, gx_r A), (1, gx_r B)], [], t135, n, 0)) rfl (fun _ => rfl) rfl ?_
  refine ex_go (S := (11, [(2, .inl 4), (0, gx_r A), (1, gx_r B)], [.inl 4], t135, n, 0)) rfl (fun _ => rfl) rfl ?_
  refine ex_go (S := (13, [(2, .inl 4), (0, gx_r A), (1, gx_r B)], [.inl 6, .inl 4], t135, n, 0)) rfl (fun _ => rfl) rfl ?_
  refine ex_go (S := (16, [(2, .inl 4), (0, gx_r A), (1, gx_r B)], [], t135, n, 0)) rfl (fun _ => rfl) rfl ?_
  refine ex_go (S := (17, [(2, .inl 4), (0, gx_r A), (1, gx_r B)], [gx_r A], t135, n, 0)) rfl (fun _ => rfl) rfl ?_
  refine st_ref (A := A) rfl g135 hA rfl (by decide) (by decide) rfl ?_
  refine ex_go (S := (21, [(2, .inl 4), (0, gx_r A), (1, gx_r B)], [.inl 4, gx_r (A + 1)], t135, n, 0)) rfl (fun _ => rfl) rfl ?_
  refine ex_go (S := (22, [(2, .inl 4), (0, gx_r A), (1, gx_r B)], [gx_r B, .inl 4, gx_r (A + 1)], t135, n, 0)) rfl (fun _ => rfl) rfl ?_
  refine st_ref (A := B) rfl g135 hB rfl (by decide) (by decide) rfl ?_
  refine ex_go (S := (26, [(2, .inl 4), (0, gx_r A), (1, gx_r B)], [.inl 4, gx_r (B + 1), .inl 4, gx_r (A + 1)], t135, n, 0)) rfl (fun _ => rfl) rfl ?_
  obtain ⟨m36, k37, m36a, m36b, m36c⟩ := st_ld (i := 4) g135 hGB1 (by decide)
  refine gx_ag (v := .inl m36) (cb := fun c => Nat.beq c 0) rfl (fun _ => rfl) g135 hGB1 rfl k37 (by first | decide | omega) rfl ?_
  refine gx_ap rfl (fun _ => rfl) g135 hGA1 rfl rfl (show 4 < 6 by decide) (gx_run1 (by decide)) (st_rh m36a m36b m36c) rfl (fun t138 g138 k138 e138 => ?_)
  refine ex_go (S := (31, [(2, .inl 5), (0, gx_r A), (1, gx_r B)], [], t138, n, 0)) rfl (fun _ => rfl) rfl ?_
  refine ex_go (S := (10, [(2, .inl 5), (0, gx_r A), (1, gx_r B)], [], t138, n, 0)) rfl (fun _ => rfl) rfl ?_
  refine ex_go (S := (11, [(2, .inl 5), (0, gx_r A), (1, gx_r B)], [.inl 5], t138, n, 0)) rfl (fun _ => rfl) rfl ?_
  refine ex_go (S := (13, [(2, .inl 5), (0, gx_r A), (1, gx_r B)], [.inl 6, .inl 5], t138, n, 0)) rfl (fun _ => rfl) rfl ?_
  refine ex_go (S := (16, [(2, .inl 5), (0, gx_r A), (1, gx_r B)], [], t138, n, 0)) rfl (fun _ => rfl) rfl ?_
  refine ex_go (S := (17, [(2, .inl 5), (0, gx_r A), (1, gx_r B)], [gx_r A], t138, n, 0)) rfl (fun _ => rfl) rfl ?_
  refine st_ref (A := A) rfl g138 hA rfl (by decide) (by decide) rfl ?_
  refine ex_go (S := (21, [(2, .inl 5), (0, gx_r A), (1, gx_r B)], [.inl 5, gx_r (A + 1)], t138, n, 0)) rfl (fun _ => rfl) rfl ?_
  refine ex_go (S := (22, [(2, .inl 5), (0, gx_r A), (1, gx_r B)], [gx_r B, .inl 5, gx_r (A + 1)], t138, n, 0)) rfl (fun _ => rfl) rfl ?_
  refine st_ref (A := B) rfl g138 hB rfl (by decide) (by decide) rfl ?_
  refine ex_go (S := (26, [(2, .inl 5), (0, gx_r A), (1, gx_r B)], [.inl 5, gx_r (B + 1), .inl 5, gx_r (A + 1)], t138, n, 0)) rfl (fun _ => rfl) rfl ?_
  obtain ⟨m39, k40, m39a, m39b, m39c⟩ := st_ld (i := 5) g138 hGB1 (by decide)
  refine gx_ag (v := .inl m39) (cb := fun c => Nat.beq c 0) rfl (fun _ => rfl) g138 hGB1 rfl k40 (by first | decide | omega) rfl ?_
  refine gx_ap rfl (fun _ => rfl) g138 hGA1 rfl rfl (show 5 < 6 by decide) (gx_run1 (by decide)) (st_rh m39a m39b m39c) rfl (fun t141 g141 k141 e141 => ?_)
  refine ex_go (S := (31, [(2, .inl 6), (0, gx_r A), (1, gx_r B)], [], t141, n, 0)) rfl (fun _ => rfl) rfl ?_
  refine ex_go (S := (10, [(2, .inl 6), (0, gx_r A), (1, gx_r B)], [], t141, n, 0)) rfl (fun _ => rfl) rfl ?_
  refine ex_go (S := (11, [(2, .inl 6), (0, gx_r A), (1, gx_r B)], [.inl 6], t141, n, 0)) rfl (fun _ => rfl) rfl ?_
  refine ex_go (S := (13, [(2, .inl 6), (0, gx_r A), (1, gx_r B)], [.inl 6, .inl 6], t141, n, 0)) rfl (fun _ => rfl) rfl ?_
  refine ex_go (S := (34, [(2, .inl 6), (0, gx_r A), (1, gx_r B)], [], t141, n, 0)) rfl (fun _ => rfl) rfl ?_
  refine ex_go (S := (35, [(2, .inl 6), (0, gx_r A), (1, gx_r B)], [.inl 0], t141, n, 0)) rfl (fun _ => rfl) rfl ?_
  refine ex_go (S := (36, [(2, .inl 0), (0, gx_r A), (1, gx_r B)], [], t141, n, 0)) rfl (fun _ => rfl) rfl ?_
  refine ex_go (S := (37, [(2, .inl 0), (0, gx_r A), (1, gx_r B)], [.inl 0], t141, n, 0)) rfl (fun _ => rfl) rfl ?_
  refine ex_go (S := (38, [(2, .inl 0), (0, gx_r A), (1, gx_r B)], [.inl 2, .inl 0], t141, n, 0)) rfl (fun _ => rfl) rfl ?_
  refine ex_go (S := (41, [(2, .inl 0), (0, gx_r A), (1, gx_r B)], [], t141, n, 0)) rfl (fun _ => rfl) rfl ?_
  refine ex_go (S := (42, [(2, .inl 0), (0, gx_r A), (1, gx_r B)], [gx_r A], t141, n, 0)) rfl (fun _ => rfl) rfl ?_
  refine st_ref (A := A) rfl g141 hA rfl (by decide) (by decide) rfl ?_
  refine ex_go (S := (46, [(2, .inl 0), (0, gx_r A), (1, gx_r B)], [.inl 0, gx_r (A + 2)], t141, n, 0)) rfl (fun _ => rfl) rfl ?_
  refine ex_go (S := (47, [(2, .inl 0), (0, gx_r A), (1, gx_r B)], [gx_r B, .inl 0, gx_r (A + 2)], t141, n, 0)) rfl (fun _ => rfl) rfl ?_
  refine st_ref (A := B) rfl g141 hB rfl (by decide) (by decide) rfl ?_
  refine ex_go (S := (51, [(2, .inl 0), (0, gx_r A), (1, gx_r B)], [.inl 0, gx_r (B + 2), .inl 0, gx_r (A + 2)], t141, n, 0)) rfl (fun _ => rfl) rfl ?_
  obtain ⟨m42, k43, m42a, m42b, m42c⟩ := st_ld (i := 0) g141 hGB2 (by decide)
  refine gx_ag (v := .inl m42) (cb := fun c => Nat.beq c 0) rfl (fun _ => rfl) g141 hGB2 rfl k43 (by first | decide | omega) rfl ?_
  refine gx_ap rfl (fun _ => rfl) g141 hGA2 rfl rfl (show 0 < 2 by decide) (gx_run1 (by decide)) (st_rh m42a m42b m42c) rfl (fun t144 g144 k144 e144 => ?_)
  refine ex_go (S := (54, [(2, .inl 0), (0, gx_r A), (1, gx_r B)], [gx_r A], t144, n, 0)) rfl (fun _ => rfl) rfl ?_
  refine st_ref (A := A) rfl g144 hA rfl (by decide) (by decide) rfl ?_
  refine ex_go (S := (58, [(2, .inl 0), (0, gx_r A), (1, gx_r B)], [.inl 0, gx_r (A + 3)], t144, n, 0)) rfl (fun _ => rfl) rfl ?_
  refine ex_go (S := (59, [(2, .inl 0), (0, gx_r A), (1, gx_r B)], [gx_r B, .inl 0, gx_r (A + 3)], t144, n, 0)) rfl (fun _ => rfl) rfl ?_
  refine st_ref (A := B) rfl g144 hB rfl (by decide) (by decide) rfl ?_
  refine ex_go (S := (63, [(2, .inl 0), (0, gx_r A), (1, gx_r B)], [.inl 0, gx_r (B + 3), .inl 0, gx_r (A + 3)], t144, n, 0)) rfl (fun _ => rfl) rfl ?_
  obtain ⟨m45, k46, m45a, m45b, m45c⟩ := st_ld (i := 0) g144 hGB3 (by decide)
  refine gx_ag (v := .inl m45) (cb := fun c => Nat.beq c 0) rfl (fun _ => rfl) g144 hGB3 rfl k46 (by first | decide | omega) rfl ?_
  refine gx_ap rfl (fun _ => rfl) g144 hGA3 rfl rfl (show 0 < 2 by decide) (gx_run1 (by decide)) (st_rh m45a m45b m45c) rfl (fun t147 g147 k147 e147 => ?_)
  refine ex_go (S := (66, [(2, .inl 0), (0, gx_r A), (1, gx_r B)], [gx_r A], t147, n, 0)) rfl (fun _ => rfl) rfl ?_
  refine st_ref (A := A) rfl g147 hA rfl (by decide) (by decide) rfl ?_
  refine ex_go (S := (70, [(2, .inl 0), (0, gx_r A), (1, gx_r B)], [.inl 0, gx_r (A + 4)], t147, n, 0)) rfl (fun _ => rfl) rfl ?_
  refine ex_go (S := (71, [(2, .inl 0), (0, gx_r A), (1, gx_r B)], [gx_r B, .inl 0, gx_r (A + 4)], t147, n, 0)) rfl (fun _ => rfl) rfl ?_
  refine st_ref (A := B) rfl g147 hB rfl (by decide) (by decide) rfl ?_
  refine ex_go (S := (75, [(2, .inl 0), (0, gx_r A), (1, gx_r B)], [.inl 0, gx_r (B + 4), .inl 0, gx_r (A + 4)], t147, n, 0)) rfl (fun _ => rfl) rfl ?_
  obtain ⟨m48, k49, m48a, m48b, m48c⟩ := st_ld (i := 0) g147 hGB4 (by decide)
  refine gx_ag (v := .inl m48) (cb := fun c => Nat.beq c 2 || Nat.beq c 1) rfl (fun _ => rfl) g147 hGB4 rfl k49 (by first | decide | omega) rfl ?_
  have hb150 := st_b1 m48b m48c m48a
  refine gx_apv (d := 2) rfl (fun _ => rfl) g147 hGA4 rfl (st_fit hb150) (show 0 < 2 by decide) (gx_run1 (by decide)) (st_rh m48a m48b m48c) rfl (fun t150 g150 k150 e150 => ?_)
  refine ex_go (S := (78, [(2, .inl 0), (0, gx_r A), (1, gx_r B)], [gx_r A], t150, n, 0)) rfl (fun _ => rfl) rfl ?_
  refine st_ref (A := A) rfl g150 hA rfl (by decide) (by decide) rfl ?_
  refine ex_go (S := (82, [(2, .inl 0), (0, gx_r A), (1, gx_r B)], [.inl 0, gx_r (A + 5)], t150, n, 0)) rfl (fun _ => rfl) rfl ?_
  refine ex_go (S := (83, [(2, .inl 0), (0, gx_r A), (1, gx_r B)], [gx_r B, .inl 0, gx_r (A + 5)], t150, n, 0)) rfl (fun _ => rfl) rfl ?_
  refine st_ref (A := B) rfl g150 hB rfl (by decide) (by decide) rfl ?_
  refine ex_go (S := (87, [(2, .inl 0), (0, gx_r A), (1, gx_r B)], [.inl 0, gx_r (B + 5), .inl 0, gx_r (A + 5)], t150, n, 0)) rfl (fun _ => rfl) rfl ?_
  obtain ⟨m51, k52, m51a, m51b, m51c⟩ := st_ld (i := 0) g150 hGB5 (by decide)
  refine gx_ag (v := .inl m51) (cb := fun c => Nat.beq c 2 || Nat.beq c 1) rfl (fun _ => rfl) g150 hGB5 rfl k52 (by first | decide | omega) rfl ?_
  have hb153 := st_b1 m51b m51c m51a
  refine gx_apv (d := 2) rfl (fun _ => rfl) g150 hGA5 rfl (st_fit hb153) (show 0 < 2 by decide) (gx_run1 (by decide)) (st_rh m51a m51b m51c) rfl (fun t153 g153 k153 e153 => ?_)
  refine ex_go (S := (90, [(2, .inl 0), (0, gx_r A), (1, gx_r B)], [gx_r A], t153, n, 0)) rfl (fun _ => rfl) rfl ?_
  refine st_ref (A := A) rfl g153 hA rfl (by decide) (by decide) rfl ?_
  refine ex_go (S := (94, [(2, .inl 0), (0, gx_r A), (1, gx_r B)], [.inl 0, gx_r (A + 6)], t153, n, 0)) rfl (fun _ => rfl) rfl ?_
  refine ex_go (S := (95, [(2, .inl 0), (0, gx_r A), (1, gx_r B)], [gx_r B, .inl 0, gx_r (A + 6)], t153, n, 0)) rfl (fun _ => rfl) rfl ?_
  refine st_ref (A := B) rfl g153 hB rfl (by decide) (by decide) rfl ?_
  refine ex_go (S := (99, [(2, .inl 0), (0, gx_r A), (1, gx_r B)], [.inl 0, gx_r (B + 6), .inl 0, gx_r (A + 6)], t153, n, 0)) rfl (fun _ => rfl) rfl ?_
  obtain ⟨m54, k55, m54a, m54b, m54c⟩ := st_ld (i := 0) g153 hGB6 (by decide)
  refine gx_ag (v := .inl m54) (cb := fun c => Nat.beq c 0) rfl (fun _ => rfl) g153 hGB6 rfl k55 (by first | decide | omega) rfl ?_
  refine gx_ap rfl (fun _ => rfl) g153 hGA6 rfl rfl (show 0 < 2 by decide) (gx_run1 (by decide)) (st_rh m54a m54b m54c) rfl (fun t156 g156 k156 e156 => ?_)
  refine ex_go (S := (104, [(2, .inl 1), (0, gx_r A), (1, gx_r B)], [], t156, n, 0)) rfl (fun _ => rfl) rfl ?_
  refine ex_go (S := (36, [(2, .inl 1), (0, gx_r A), (1, gx_r B)], [], t156, n, 0)) rfl (fun _ => rfl) rfl ?_
  refine ex_go (S := (37, [(2, .inl 1), (0, gx_r A), (1, gx_r B)], [.inl 1], t156, n, 0)) rfl (fun _ => rfl) rfl ?_
  refine ex_go (S := (38, [(2, .inl 1), (0, gx_r A), (1, gx_r B)], [.inl 2, .inl 1], t156, n, 0)) rfl (fun _ => rfl) rfl ?_
  refine ex_go (S := (41, [(2, .inl 1), (0, gx_r A), (1, gx_r B)], [], t156, n, 0)) rfl (fun _ => rfl) rfl ?_
  refine ex_go (S := (42, [(2, .inl 1), (0, gx_r A), (1, gx_r B)], [gx_r A], t156, n, 0)) rfl (fun _ => rfl) rfl ?_
  refine st_ref (A := A) rfl g156 hA rfl (by decide) (by decide) rfl ?_
  refine ex_go (S := (46, [(2, .inl 1), (0, gx_r A), (1, gx_r B)], [.inl 1, gx_r (A + 2)], t156, n, 0)) rfl (fun _ => rfl) rfl ?_
  refine ex_go (S := (47, [(2, .inl 1), (0, gx_r A), (1, gx_r B)], [gx_r B, .inl 1, gx_r (A + 2)], t156, n, 0)) rfl (fun _ => rfl) rfl ?_
  refine st_ref (A := B) rfl g156 hB rfl (by decide) (by decide) rfl ?_
  refine ex_go (S := (51, [(2, .inl 1), (0, gx_r A), (1, gx_r B)], [.inl 1, gx_r (B + 2), .inl 1, gx_r (A + 2)], t156, n, 0)) rfl (fun _ => rfl) rfl ?_
  obtain ⟨m57, k58, m57a, m57b, m57c⟩ := st_ld (i := 1) g156 hGB2 (by decide)
  refine gx_ag (v := .inl m57) (cb := fun c => Nat.beq c 0) rfl (fun _ => rfl) g156 hGB2 rfl k58 (by first | decide | omega) rfl ?_
  refine gx_ap rfl (fun _ => rfl) g156 hGA2 rfl rfl (show 1 < 2 by decide) (gx_run1 (by decide)) (st_rh m57a m57b m57c) rfl (fun t159 g159 k159 e159 => ?_)
  refine ex_go (S := (54, [(2, .inl 1), (0, gx_r A), (1, gx_r B)], [gx_r A], t159, n, 0)) rfl (fun _ => rfl) rfl ?_
  refine st_ref (A := A) rfl g159 hA rfl (by decide) (by decide) rfl ?_
  refine ex_go (S := (58, [(2, .inl 1), (0, gx_r A), (1, gx_r B)], [.inl 1, gx_r (A + 3)], t159, n, 0)) rfl (fun _ => rfl) rfl ?_
  refine ex_go (S := (59, [(2, .inl 1), (0, gx_r A), (1, gx_r B)], [gx_r B, .inl 1, gx_r (A + 3)], t159, n, 0)) rfl (fun _ => rfl) rfl ?_
  refine st_ref (A := B) rfl g159 hB rfl (by decide) (by decide) rfl ?_
  refine ex_go (S := (63, [(2, .inl 1), (0, gx_r A), (1, gx_r B)], [.inl 1, gx_r (B + 3), .inl 1, gx_r (A + 3)], t159, n, 0)) rfl (fun _ => rfl) rfl ?_
  obtain ⟨m60, k61, m60a, m60b, m60c⟩ := st_ld (i := 1) g159 hGB3 (by decide)
  refine gx_ag (v := .inl m60) (cb := fun c => Nat.beq c 0) rfl (fun _ => rfl) g159 hGB3 rfl k61 (by first | decide | omega) rfl ?_
  refine gx_ap rfl (fun _ => rfl) g159 hGA3 rfl rfl (show 1 < 2 by decide) (gx_run1 (by decide)) (st_rh m60a m60b m60c) rfl (fun t162 g162 k162 e162 => ?_)
  refine ex_go (S := (66, [(2, .inl 1), (0, gx_r A), (1, gx_r B)], [gx_r A], t162, n, 0)) rfl (fun _ => rfl) rfl ?_
  refine st_ref (A := A) rfl g162 hA rfl (by decide) (by decide) rfl ?_
  refine ex_go (S := (70, [(2, .inl 1), (0, gx_r A), (1, gx_r B)], [.inl 1, gx_r (A + 4)], t162, n, 0)) rfl (fun _ => rfl) rfl ?_
  refine ex_go (S := (71, [(2, .inl 1), (0, gx_r A), (1, gx_r B)], [gx_r B, .inl 1, gx_r (A + 4)], t162, n, 0)) rfl (fun _ => rfl) rfl ?_
  refine st_ref (A := B) rfl g162 hB rfl (by decide) (by decide) rfl ?_
  refine ex_go (S := (75, [(2, .inl 1), (0, gx_r A), (1, gx_r B)], [.inl 1, gx_r (B + 4), .inl 1, gx_r (A + 4)], t162, n, 0)) rfl (fun _ => rfl) rfl ?_
  obtain ⟨m63, k64, m63a, m63b, m63c⟩ := st_ld (i := 1) g162 hGB4 (by decide)
  refine gx_ag (v := .inl m63) (cb := fun c => Nat.beq c 2 || Nat.beq c 1) rfl (fun _ => rfl) g162 hGB4 rfl k64 (by first | decide | omega) rfl ?_
  have hb165 := st_b1 m63b m63c m63a
  refine gx_apv (d := 2) rfl (fun _ => rfl) g162 hGA4 rfl (st_fit hb165) (show 1 < 2 by decide) (gx_run1 (by decide)) (st_rh m63a m63b m63c) rfl (fun t165 g165 k165 e165 => ?_)
  refine ex_go (S := (78, [(2, .inl 1), (0, gx_r A), (1, gx_r B)], [gx_r A], t165, n, 0)) rfl (fun _ => rfl) rfl ?_
  refine st_ref (A := A) rfl g165 hA rfl (by decide) (by decide) rfl ?_
  refine ex_go (S := (82, [(2, .inl 1), (0, gx_r A), (1, gx_r B)], [.inl 1, gx_r (A + 5)], t165, n, 0)) rfl (fun _ => rfl) rfl ?_
  refine ex_go (S := (83, [(2, .inl 1), (0, gx_r A), (1, gx_r B)], [gx_r B, .inl 1, gx_r (A + 5)], t165, n, 0)) rfl (fun _ => rfl) rfl ?_
  refine st_ref (A := B) rfl g165 hB rfl (by decide) (by decide) rfl ?_
  refine ex_go (S := (87, [(2, .inl 1), (0, gx_r A), (1, gx_r B)], [.inl 1, gx_r (B + 5), .inl 1, gx_r (A + 5)], t165, n, 0)) rfl (fun _ => rfl) rfl ?_
  obtain ⟨m66, k67, m66a, m66b, m66c⟩ := st_ld (i := 1) g165 hGB5 (by decide)
  refine gx_ag (v := .inl m66) (cb := fun c => Nat.beq c 2 || Nat.beq c 1) rfl (fun _ => rfl) g165 hGB5 rfl k67 (by first | decide | omega) rfl ?_
  have hb168 := st_b1 m66b m66c m66a
  refine gx_apv (d := 2) rfl (fun _ => rfl) g165 hGA5 rfl (st_fit hb168) (show 1 < 2 by decide) (gx_run1 (by decide)) (st_rh m66a m66b m66c) rfl (fun t168 g168 k168 e168 => ?_)
  refine ex_go (S := (90, [(2, .inl 1), (0, gx_r A), (1, gx_r B)], [gx_r A], t168, n, 0)) rfl (fun _ => rfl) rfl ?_
  refine st_ref (A := A) rfl g168 hA rfl (by decide) (by decide) rfl ?_
  refine ex_go (S := (94, [(2, .inl 1), (0, gx_r A), (1, gx_r B)], [.inl 1, gx_r (A + 6)], t168, n, 0)) rfl (fun _ => rfl) rfl ?_
  refine ex_go (S := (95, [(2, .inl 1), (0, gx_r A), (1, gx_r B)], [gx_r B, .inl 1, gx_r (A + 6)], t168, n, 0)) rfl (fun _ => rfl) rfl ?_
  refine st_ref (A := B) rfl g168 hB rfl (by decide) (by decide) rfl ?_
  refine ex_go (S := (99, [(2, .inl 1), (0, gx_r A), (1, gx_r B)], [.inl 1, gx_r (B + 6), .inl 1, gx_r (A + 6)], t168, n, 0)) rfl (fun _ => rfl) rfl ?_
  obtain ⟨m69, k70, m69a, m69b, m69c⟩ := st_ld (i := 1) g168 hGB6 (by decide)
  refine gx_ag (v := .inl m69) (cb := fun c => Nat.beq c 0) rfl (fun _ => rfl) g168 hGB6 rfl k70 (by first | decide | omega) rfl ?_
  refine gx_ap rfl (fun _ => rfl) g168 hGA6 rfl rfl (show 1 < 2 by decide) (gx_run1 (by decide)) (st_rh m69a m69b m69c) rfl (fun t171 g171 k171 e171 => ?_)
  refine ex_go (S := (104, [(2, .inl 2), (0, gx_r A), (1, gx_r B)], [], t171, n, 0)) rfl (fun _ => rfl) rfl ?_
  refine ex_go (S := (36, [(2, .inl 2), (0, gx_r A), (1, gx_r B)], [], t171, n, 0)) rfl (fun _ => rfl) rfl ?_
  refine ex_go (S := (37, [(2, .inl 2), (0, gx_r A), (1, gx_r B)], [.inl 2], t171, n, 0)) rfl (fun _ => rfl) rfl ?_
  refine ex_go (S := (38, [(2, .inl 2), (0, gx_r A), (1, gx_r B)], [.inl 2, .inl 2], t171, n, 0)) rfl (fun _ => rfl) rfl ?_
  refine ex_go (S := (107, [(2, .inl 2), (0, gx_r A), (1, gx_r B)], [], t171, n, 0)) rfl (fun _ => rfl) rfl ?_
  refine ex_ret (r := (none, t171, n, 0)) rfl (fun _ => rfl) ?_
  refine ⟨_, rfl, t171, rfl, g171, (fun c i h => (e171 c i (by first | decide | omega)).trans ((e168 c i (by first | decide | omega)).trans ((e165 c i (by first | decide | omega)).trans ((e162 c i (by first | decide | omega)).trans ((e159 c i (by first | decide | omega)).trans ((e156 c i (by first | decide | omega)).trans ((e153 c i (by first | decide | omega)).trans ((e150 c i (by first | decide | omega)).trans ((e147 c i (by first | decide | omega)).trans ((e144 c i (by first | decide | omega)).trans ((e141 c i (by first | decide | omega)).trans ((e138 c i (by first | decide | omega)).trans ((e135 c i (by first | decide | omega)).trans ((e132 c i (by first | decide | omega)).trans ((e129 c i (by first | decide | omega)).trans ((e126 c i (by first | decide | omega)).trans (e123 c i (by first | decide | omega)))))))))))))))))), ?_, fun i hi => ?_, fun j i hj1 hj2 hi => ?_⟩
  · exact ((e171 (A) 0 (by first | decide | omega)).trans ((e168 (A) 0 (by first | decide | omega)).trans ((e165 (A) 0 (by first | decide | omega)).trans ((e162 (A) 0 (by first | decide | omega)).trans ((e159 (A) 0 (by first | decide | omega)).trans ((e156 (A) 0 (by first | decide | omega)).trans ((e153 (A) 0 (by first | decide | omega)).trans ((e150 (A) 0 (by first | decide | omega)).trans ((e147 (A) 0 (by first | decide | omega)).trans ((e144 (A) 0 (by first | decide | omega)).trans ((e141 (A) 0 (by first | decide | omega)).trans ((e138 (A) 0 (by first | decide | omega)).trans ((e135 (A) 0 (by first | decide | omega)).trans ((e132 (A) 0 (by first | decide | omega)).trans ((e129 (A) 0 (by first | decide | omega)).trans ((e126 (A) 0 (by first | decide | omega)).trans (k123))))))))))))))))).trans kB.symm
  · rcases (show i = 0 ∨ i = 1 ∨ i = 2 ∨ i = 3 ∨ i = 4 ∨ i = 5 by omega) with rfl | rfl | rfl | rfl | rfl | rfl
    · exact ((e171 (A + 1) 0 (by first | decide | omega)).trans ((e168 (A + 1) 0 (by first | decide | omega)).trans ((e165 (A + 1) 0 (by first | decide | omega)).trans ((e162 (A + 1) 0 (by first | decide | omega)).trans ((e159 (A + 1) 0 (by first | decide | omega)).trans ((e156 (A + 1) 0 (by first | decide | omega)).trans ((e153 (A + 1) 0 (by first | decide | omega)).trans ((e150 (A + 1) 0 (by first | decide | omega)).trans ((e147 (A + 1) 0 (by first | decide | omega)).trans ((e144 (A + 1) 0 (by first | decide | omega)).trans ((e141 (A + 1) 0 (by first | decide | omega)).trans ((e138 (A + 1) 0 (by first | decide | omega)).trans ((e135 (A + 1) 0 (by first | decide | omega)).trans ((e132 (A + 1) 0 (by first | decide | omega)).trans ((e129 (A + 1) 0 (by first | decide | omega)).trans (k126)))))))))))))))).trans (k25.symm.trans (e123 (B + 1) 0 (by first | decide | omega)))
    · exact ((e171 (A + 1) 1 (by first | decide | omega)).trans ((e168 (A + 1) 1 (by first | decide | omega)).trans ((e165 (A + 1) 1 (by first | decide | omega)).trans ((e162 (A + 1) 1 (by first | decide | omega)).trans ((e159 (A + 1) 1 (by first | decide | omega)).trans ((e156 (A + 1) 1 (by first | decide | omega)).trans ((e153 (A + 1) 1 (by first | decide | omega)).trans ((e150 (A + 1) 1 (by first | decide | omega)).trans ((e147 (A + 1) 1 (by first | decide | omega)).trans ((e144 (A + 1) 1 (by first | decide | omega)).trans ((e141 (A + 1) 1 (by first | decide | omega)).trans ((e138 (A + 1) 1 (by first | decide | omega)).trans ((e135 (A + 1) 1 (by first | decide | omega)).trans ((e132 (A + 1) 1 (by first | decide | omega)).trans (k129))))))))))))))).trans (k28.symm.trans ((e126 (B + 1) 1 (by first | decide | omega)).trans (e123 (B + 1) 1 (by first | decide | omega))))
    · exact ((e171 (A + 1) 2 (by first | decide | omega)).trans ((e168 (A + 1) 2 (by first | decide | omega)).trans ((e165 (A + 1) 2 (by first | decide | omega)).trans ((e162 (A + 1) 2 (by first | decide | omega)).trans ((e159 (A + 1) 2 (by first | decide | omega)).trans ((e156 (A + 1) 2 (by first | decide | omega)).trans ((e153 (A + 1) 2 (by first | decide | omega)).trans ((e150 (A + 1) 2 (by first | decide | omega)).trans ((e147 (A + 1) 2 (by first | decide | omega)).trans ((e144 (A + 1) 2 (by first | decide | omega)).trans ((e141 (A + 1) 2 (by first | decide | omega)).trans ((e138 (A + 1) 2 (by first | decide | omega)).trans ((e135 (A + 1) 2 (by first | decide | omega)).trans (k132)))))))))))))).trans (k31.symm.trans ((e129 (B + 1) 2 (by first | decide | omega)).trans ((e126 (B + 1) 2 (by first | decide | omega)).trans (e123 (B + 1) 2 (by first | decide | omega)))))
    · exact ((e171 (A + 1) 3 (by first | decide | omega)).trans ((e168 (A + 1) 3 (by first | decide | omega)).trans ((e165 (A + 1) 3 (by first | decide | omega)).trans ((e162 (A + 1) 3 (by first | decide | omega)).trans ((e159 (A + 1) 3 (by first | decide | omega)).trans ((e156 (A + 1) 3 (by first | decide | omega)).trans ((e153 (A + 1) 3 (by first | decide | omega)).trans ((e150 (A + 1) 3 (by first | decide | omega)).trans ((e147 (A + 1) 3 (by first | decide | omega)).trans ((e144 (A + 1) 3 (by first | decide | omega)).trans ((e141 (A + 1) 3 (by first | decide | omega)).trans ((e138 (A + 1) 3 (by first | decide | omega)).trans (k135))))))))))))).trans (k34.symm.trans ((e132 (B + 1) 3 (by first | decide | omega)).trans ((e129 (B + 1) 3 (by first | decide | omega)).trans ((e126 (B + 1) 3 (by first | decide | omega)).trans (e123 (B + 1) 3 (by first | decide | omega))))))
    · exact ((e171 (A + 1) 4 (by first | decide | omega)).trans ((e168 (A + 1) 4 (by first | decide | omega)).trans ((e165 (A + 1) 4 (by first | decide | omega)).trans ((e162 (A + 1) 4 (by first | decide | omega)).trans ((e159 (A + 1) 4 (by first | decide | omega)).trans ((e156 (A + 1) 4 (by first | decide | omega)).trans ((e153 (A + 1) 4 (by first | decide | omega)).trans ((e150 (A + 1) 4 (by first | decide | omega)).trans ((e147 (A + 1) 4 (by first | decide | omega)).trans ((e144 (A + 1) 4 (by first | decide | omega)).trans ((e141 (A + 1) 4 (by first | decide | omega)).trans (k138)))))))))))).trans (k37.symm.trans ((e135 (B + 1) 4 (by first | decide | omega)).trans ((e132 (B + 1) 4 (by first | decide | omega)).trans ((e129 (B + 1) 4 (by first | decide | omega)).trans ((e126 (B + 1) 4 (by first | decide | omega)).trans (e123 (B + 1) 4 (by first | decide | omega)))))))
    · exact ((e171 (A + 1) 5 (by first | decide | omega)).trans ((e168 (A + 1) 5 (by first | decide | omega)).trans ((e165 (A + 1) 5 (by first | decide | omega)).trans ((e162 (A + 1) 5 (by first | decide | omega)).trans ((e159 (A + 1) 5 (by first | decide | omega)).trans ((e156 (A + 1) 5 (by first | decide | omega)).trans ((e153 (A + 1) 5 (by first | decide | omega)).trans ((e150 (A + 1) 5 (by first | decide | omega)).trans ((e147 (A + 1) 5 (by first | decide | omega)).trans ((e144 (A + 1) 5 (by first | decide | omega)).trans (k141))))))))))).trans (k40.symm.trans ((e138 (B + 1) 5 (by first | decide | omega)).trans ((e135 (B + 1) 5 (by first | decide | omega)).trans ((e132 (B + 1) 5 (by first | decide | omega)).trans ((e129 (B + 1) 5 (by first | decide | omega)).trans ((e126 (B + 1) 5 (by first | decide | omega)).trans (e123 (B + 1) 5 (by first | decide | omega))))))))
  · rcases (show (j = 2 ∨ j = 3 ∨ j = 4 ∨ j = 5 ∨ j = 6) ∧ (i = 0 ∨ i = 1) by omega) with ⟨rfl | rfl | rfl | rfl | rfl, rfl | rfl⟩
    · exact ((e171 (A + 2) 0 (by first | decide | omega)).trans ((e168 (A + 2) 0 (by first | decide | omega)).trans ((e165 (A + 2) 0 (by first | decide | omega)).trans ((e162 (A + 2) 0 (by first | decide | omega)).trans ((e159 (A + 2) 0 (by first | decide | omega)).trans ((e156 (A + 2) 0 (by first | decide | omega)).trans ((e153 (A + 2) 0 (by first | decide | omega)).trans ((e150 (A + 2) 0 (by first | decide | omega)).trans ((e147 (A + 2) 0 (by first | decide | omega)).trans (k144)))))))))).trans (k43.symm.trans ((e141 (B + 2) 0 (by first | decide | omega)).trans ((e138 (B + 2) 0 (by first | decide | omega)).trans ((e135 (B + 2) 0 (by first | decide | omega)).trans ((e132 (B + 2) 0 (by first | decide | omega)).trans ((e129 (B + 2) 0 (by first | decide | omega)).trans ((e126 (B + 2) 0 (by first | decide | omega)).trans (e123 (B + 2) 0 (by first | decide | omega)))))))))
    · exact ((e171 (A + 2) 1 (by first | decide | omega)).trans ((e168 (A + 2) 1 (by first | decide | omega)).trans ((e165 (A + 2) 1 (by first | decide | omega)).trans ((e162 (A + 2) 1 (by first | decide | omega)).trans (k159))))).trans (k58.symm.trans ((e156 (B + 2) 1 (by first | decide | omega)).trans ((e153 (B + 2) 1 (by first | decide | omega)).trans ((e150 (B + 2) 1 (by first | decide | omega)).trans ((e147 (B + 2) 1 (by first | decide | omega)).trans ((e144 (B + 2) 1 (by first | decide | omega)).trans ((e141 (B + 2) 1 (by first | decide | omega)).trans ((e138 (B + 2) 1 (by first | decide | omega)).trans ((e135 (B + 2) 1 (by first | decide | omega)).trans ((e132 (B + 2) 1 (by first | decide | omega)).trans ((e129 (B + 2) 1 (by first | decide | omega)).trans ((e126 (B + 2) 1 (by first | decide | omega)).trans (e123 (B + 2) 1 (by first | decide | omega))))))))))))))
    · exact ((e171 (A + 3) 0 (by first | decide | omega)).trans ((e168 (A + 3) 0 (by first | decide | omega)).trans ((e165 (A + 3) 0 (by first | decide | omega)).trans ((e162 (A + 3) 0 (by first | decide | omega)).trans ((e159 (A + 3) 0 (by first | decide | omega)).trans ((e156 (A + 3) 0 (by first | decide | omega)).trans ((e153 (A + 3) 0 (by first | decide | omega)).trans ((e150 (A + 3) 0 (by first | decide | omega)).trans (k147))))))))).trans (k46.symm.trans ((e144 (B + 3) 0 (by first | decide | omega)).trans ((e141 (B + 3) 0 (by first | decide | omega)).trans ((e138 (B + 3) 0 (by first | decide | omega)).trans ((e135 (B + 3) 0 (by first | decide | omega)).trans ((e132 (B + 3) 0 (by first | decide | omega)).trans ((e129 (B + 3) 0 (by first | decide | omega)).trans ((e126 (B + 3) 0 (by first | decide | omega)).trans (e123 (B + 3) 0 (by first | decide | omega))))))))))
    · exact ((e171 (A + 3) 1 (by first | decide | omega)).trans ((e168 (A + 3) 1 (by first | decide | omega)).trans ((e165 (A + 3) 1 (by first | decide | omega)).trans (k162)))).trans (k61.symm.trans ((e159 (B + 3) 1 (by first | decide | omega)).trans ((e156 (B + 3) 1 (by first | decide | omega)).trans ((e153 (B + 3) 1 (by first | decide | omega)).trans ((e150 (B + 3) 1 (by first | decide | omega)).trans ((e147 (B + 3) 1 (by first | decide | omega)).trans ((e144 (B + 3) 1 (by first | decide | omega)).trans ((e141 (B + 3) 1 (by first | decide | omega)).trans ((e138 (B + 3) 1 (by first | decide | omega)).trans ((e135 (B + 3) 1 (by first | decide | omega)).trans ((e132 (B + 3) 1 (by first | decide | omega)).trans ((e129 (B + 3) 1 (by first | decide | omega)).trans ((e126 (B + 3) 1 (by first | decide | omega)).trans (e123 (B + 3) 1 (by first | decide | omega)))))))))))))))
    · exact ((e171 (A + 4) 0 (by first | decide | omega)).trans ((e168 (A + 4) 0 (by first | decide | omega)).trans ((e165 (A + 4) 0 (by first | decide | omega)).trans ((e162 (A + 4) 0 (by first | decide | omega)).trans ((e159 (A + 4) 0 (by first | decide | omega)).trans ((e156 (A + 4) 0 (by first | decide | omega)).trans ((e153 (A + 4) 0 (by first | decide | omega)).trans (k150)))))))).trans (k49.symm.trans ((e147 (B + 4) 0 (by first | decide | omega)).trans ((e144 (B + 4) 0 (by first | decide | omega)).trans ((e141 (B + 4) 0 (by first | decide | omega)).trans ((e138 (B + 4) 0 (by first | decide | omega)).trans ((e135 (B + 4) 0 (by first | decide | omega)).trans ((e132 (B + 4) 0 (by first | decide | omega)).trans ((e129 (B + 4) 0 (by first | decide | omega)).trans ((e126 (B + 4) 0 (by first | decide | omega)).trans (e123 (B + 4) 0 (by first | decide | omega)))))))))))
    · exact ((e171 (A + 4) 1 (by first | decide | omega)).trans ((e168 (A + 4) 1 (by first | decide | omega)).trans (k165))).trans (k64.symm.trans ((e162 (B + 4) 1 (by first | decide | omega)).trans ((e159 (B + 4) 1 (by first | decide | omega)).trans ((e156 (B + 4) 1 (by first | decide | omega)).trans ((e153 (B + 4) 1 (by first | decide | omega)).trans ((e150 (B + 4) 1 (by first | decide | omega)).trans ((e147 (B + 4) 1 (by first | decide | omega)).trans ((e144 (B + 4) 1 (by first | decide | omega)).trans ((e141 (B + 4) 1 (by first | decide | omega)).trans ((e138 (B + 4) 1 (by first | decide | omega)).trans ((e135 (B + 4) 1 (by first | decide | omega)).trans ((e132 (B + 4) 1 (by first | decide | omega)).trans ((e129 (B + 4) 1 (by first | decide | omega)).trans ((e126 (B + 4) 1 (by first | decide | omega)).trans (e123 (B + 4) 1 (by first | decide | omega))))))))))))))))
    · exact ((e171 (A + 5) 0 (by first | decide | omega)).trans ((e168 (A + 5) 0 (by first | decide | omega)).trans ((e165 (A + 5) 0 (by first | decide | omega)).trans ((e162 (A + 5) 0 (by first | decide | omega)).trans ((e159 (A + 5) 0 (by first | decide | omega)).trans ((e156 (A + 5) 0 (by first | decide | omega)).trans (k153))))))).trans (k52.symm.trans ((e150 (B + 5) 0 (by first | decide | omega)).trans ((e147 (B + 5) 0 (by first | decide | omega)).trans ((e144 (B + 5) 0 (by first | decide | omega)).trans ((e141 (B + 5) 0 (by first | decide | omega)).trans ((e138 (B + 5) 0 (by first | decide | omega)).trans ((e135 (B + 5) 0 (by first | decide | omega)).trans ((e132 (B + 5) 0 (by first | decide | omega)).trans ((e129 (B + 5) 0 (by first | decide | omega)).trans ((e126 (B + 5) 0 (by first | decide | omega)).trans (e123 (B + 5) 0 (by first | decide | omega))))))))))))
    · exact ((e171 (A + 5) 1 (by first | decide | omega)).trans (k168)).trans (k67.symm.trans ((e165 (B + 5) 1 (by first | decide | omega)).trans ((e162 (B + 5) 1 (by first | decide | omega)).trans ((e159 (B + 5) 1 (by first | decide | omega)).trans ((e156 (B + 5) 1 (by first | decide | omega)).trans ((e153 (B + 5) 1 (by first | decide | omega)).trans ((e150 (B + 5) 1 (by first | decide | omega)).trans ((e147 (B + 5) 1 (by first | decide | omega)).trans ((e144 (B + 5) 1 (by first | decide | omega)).trans ((e141 (B + 5) 1 (by first | decide | omega)).trans ((e138 (B + 5) 1 (by first | decide | omega)).trans ((e135 (B + 5) 1 (by first | decide | omega)).trans ((e132 (B + 5) 1 (by first | decide | omega)).trans ((e129 (B + 5) 1 (by first | decide | omega)).trans ((e126 (B + 5) 1 (by first | decide | omega)).trans (e123 (B + 5) 1 (by first | decide | omega)))))))))))))))))
    · exact ((e171 (A + 6) 0 (by first | decide | omega)).trans ((e168 (A + 6) 0 (by first | decide | omega)).trans ((e165 (A + 6) 0 (by first | decide | omega)).trans ((e162 (A + 6) 0 (by first | decide | omega)).trans ((e159 (A + 6) 0 (by first | decide | omega)).trans (k156)))))).trans (k55.symm.trans ((e153 (B + 6) 0 (by first | decide | omega)).trans ((e150 (B + 6) 0 (by first | decide | omega)).trans ((e147 (B + 6) 0 (by first | decide | omega)).trans ((e144 (B + 6) 0 (by first | decide | omega)).trans ((e141 (B + 6) 0 (by first | decide | omega)).trans ((e138 (B + 6) 0 (by first | decide | omega)).trans ((e135 (B + 6) 0 (by first | decide | omega)).trans ((e132 (B + 6) 0 (by first | decide | omega)).trans ((e129 (B + 6) 0 (by first | decide | omega)).trans ((e126 (B + 6) 0 (by first | decide | omega)).trans (e123 (B + 6) 0 (by first | decide | omega)))))))))))))
    · exact (k171).trans (k70.symm.trans ((e168 (B + 6) 1 (by first | decide | omega)).trans ((e165 (B + 6) 1 (by first | decide | omega)).trans ((e162 (B + 6) 1 (by first | decide | omega)).trans ((e159 (B + 6) 1 (by first | decide | omega)).trans ((e156 (B + 6) 1 (by first | decide | omega)).trans ((e153 (B + 6) 1 (by first | decide | omega)).trans ((e150 (B + 6) 1 (by first | decide | omega)).trans ((e147 (B + 6) 1 (by first | decide | omega)).trans ((e144 (B + 6) 1 (by first | decide | omega)).trans ((e141 (B + 6) 1 (by first | decide | omega)).trans ((e138 (B + 6) 1 (by first | decide | omega)).trans ((e135 (B + 6) 1 (by first | decide | omega)).trans ((e132 (B + 6) 1 (by first | decide | omega)).trans ((e129 (B + 6) 1 (by first | decide | omega)).trans ((e126 (B + 6) 1 (by first | decide | omega)).trans (e123 (B + 6) 1 (by first | decide | omega))))))))))))))))))
theorem SC_take {t t' : en_H} {A B T K : Nat} {σ : Nat → Nat} (h : SC t B T K σ) (hT : T ≤ 6) (hK : K ≤ 2) (e0 : ai_hv t' A 0 = ai_hv t B 0) (e1 : ∀ i, i < 6 → ai_hv t' (A + 1) i = ai_hv t (B + 1) i) (e2 : ∀ j i, 2 ≤ j → j ≤ 6 → i < 2 → ai_hv t' (A + j) i = ai_hv t (B + j) i) : SC t' A T K σ := by
  obtain ⟨h1, h2, h3⟩ := h
  refine ⟨e0.trans h1, fun i hi => (e1 i (by first | decide | omega)).trans (h2 i hi), fun c hc => ?_⟩
  obtain ⟨a1, a2, a3, a4, a5⟩ := h3 c hc
  exact ⟨(e2 2 c (by decide) (by decide) (by first | decide | omega)).trans a1, (e2 3 c (by decide) (by decide) (by first | decide | omega)).trans a2, (e2 4 c (by decide) (by decide) (by first | decide | omega)).trans a3, (e2 5 c (by decide) (by decide) (by first | decide | omega)).trans a4, fun z => (e2 6 c (by decide) (by decide) (by first | decide | omega)).trans (a5 z)⟩
end SSC
