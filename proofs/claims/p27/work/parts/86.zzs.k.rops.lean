section SSK
/-- where a crew's sledge is -/
noncomputable def slp (w : Nat → Nat → Nat) (σ : Nat → Nat) (c : Nat) : Nat := if σ (11 + c) = 1 then σ (13 + c) else σ (1 + w 3 c)
noncomputable def mayH (w : Nat → Nat → Nat) (σ : Nat → Nat) (c to : Nat) : Prop := ¬ σ (15 + c) = 1 ∧ ¬ slp w σ c = to ∧ hit w (σ 0) (w 0 5) (fun q => decide (q = slp w σ c)) to = true
noncomputable def sgH (σ : Nat → Nat) (c to : Nat) : Nat → Nat := fun j => if j = 11 + c then 1 else if j = 13 + c then to else if j = 15 + c then 1 else σ j
noncomputable def mayL (w : Nat → Nat → Nat) (σ : Nat → Nat) (c : Nat) : Prop := w 0 4 = 2 ∧ σ (11 + c) = 1 ∧ 0 < σ (7 + c) ∧ σ (13 + c) = σ (1 + w 3 (1 - c))
noncomputable def isb (a b : Nat) : Nat := (nI a - nI b).toBitVec.toNat
noncomputable def lnv (σ : Nat → Nat) (c v : Nat) : Nat := min v (σ (7 + c))
noncomputable def sgL (σ : Nat → Nat) (c v : Nat) : Nat → Nat := fun j => if j = 7 + c then σ j - lnv σ c v else if j = 8 - c then σ j + lnv σ c v else if j = 9 + c then en_wrap (σ j + lnv σ c v) else if j = 10 - c then isb (σ j) (lnv σ c v) else σ j
noncomputable def mayM (w : Nat → Nat → Nat) (σ : Nat → Nat) (c : Nat) : Prop := σ (11 + c) = 1 ∧ σ (13 + c) = σ (1 + w 3 c)
noncomputable def sgM' (σ : Nat → Nat) (c : Nat) : Nat → Nat := fun j => if j = 11 + c then 0 else σ j
theorem isb_lt {a b : Nat} : isb a b < 4294967296 := (nI a - nI b).toBitVec.isLt
section
variable {oc : Option (List en_V)} {f : en_F} {code : Nat → Option en_I} {stop : Nat → Bool} {P : en_O → Prop}
variable {pc nx : Nat} {ls : en_L} {st : List en_V} {t : en_H} {n sl : Nat}
theorem gx_isbx {x1 x2 a b : Nat} (hc : code pc = some (.isub, nx, x1, x2)) (hp : stop nx = false) (h : en_ex oc f code stop (nx, ls, .inl (isb a b) :: st, t, n, sl) P) : en_ex oc f code stop (pc, ls, .inl b :: .inl a :: st, t, n, sl) P :=
  ex_go (S := (nx, ls, .inl (isb a b) :: st, t, n, sl)) hc (fun k => rfl) hp h
end
theorem slp_lt {w : Nat → Nat → Nat} {σ : Nat → Nat} {c : Nat} (hw : WS w) (hb : sbd σ) (hc : c < w 0 4) : slp w σ c < 64 := by
  have h1 := hw.1.2.2.2.2.1
  have h2 := hw.1.2.2.1
  have h3 := (hw.2.1 c hc).1
  have h4 := hb.1 (w 3 c) (by first | decide | omega)
  obtain ⟨-, -, -, ⟨h13, h14⟩, -⟩ := hb
  rcases (show c = 0 ∨ c = 1 by omega) with rfl | rfl
  · show (if σ 11 = 1 then σ 13 else σ (1 + w 3 0)) < 64
    split <;> omega
  · show (if σ 12 = 1 then σ 14 else σ (1 + w 3 1)) < 64
    split <;> omega
theorem sr_sled0_0 (d n : Nat) {t0 : en_H} {w : Nat → Nat → Nat} {L : List Nat} {σ : Nat → Nat} (g0 : ai_HG ah_G t0) (hR : RW t0 w L) (hb : sbd σ) (hσ : ∀ j, j < 17 → ai_hv t0 399 (0 + j) = some (.inl (σ j))) (hc : 0 < w 0 4) : ∃ r, en_u (d + 2) 113 [gx_r 383, .inl 0, .inl 0] t0 n = some r ∧ r = (some (.inl (slp w σ 0)), t0, n, 0) := by
  have hw := WS_of hR
  obtain ⟨hb1, ⟨hb7, hb8⟩, ⟨hb11, hb12⟩, ⟨hb13, hb14⟩, ⟨hb15, hb16⟩, hb0, hb9, hb10⟩ := hb
  have hT := hw.1.2.2.1
  have hK := hw.1.2.2.2.2.1
  obtain ⟨ks0, hs0, -⟩ := hR.2.2.2.1 0 (by first | decide | omega)
  have hp0 := hb1 (w 3 0) (by first | decide | omega)
  have hsl : slp w σ 0 = if σ 11 = 1 then σ 13 else σ (1 + w 3 0) := rfl
  refine en_u_ex (d := d + 1) rfl ?_
  show en_ex _ _ _ _ (0, [(0, gx_r 383), (1, .inl 0), (2, .inl 0)], [], t0, n, 0) _
  refine ex_go (S := (1, [(0, gx_r 383), (1, .inl 0), (2, .inl 0)], [gx_r 383], t0, n, 0)) rfl (fun _ => rfl) rfl ?_
  refine gx_ref (c := 399) rfl g0 rfl rfl rfl rfl ?_
  refine ex_go (S := (5, [(0, gx_r 383), (1, .inl 0), (2, .inl 0)], [.inl 0, gx_r 399], t0, n, 0)) rfl (fun _ => rfl) rfl ?_
  refine ex_go (S := (7, [(0, gx_r 383), (1, .inl 0), (2, .inl 0)], [.inl 11, .inl 0, gx_r 399], t0, n, 0)) rfl (fun _ => rfl) rfl ?_
  refine ex_go (S := (8, [(0, gx_r 383), (1, .inl 0), (2, .inl 0)], [.inl 11, gx_r 399], t0, n, 0)) rfl (fun _ => rfl) rfl ?_
  refine ex_go (S := (9, [(0, gx_r 383), (1, .inl 0), (2, .inl 0)], [.inl 0, .inl 11, gx_r 399], t0, n, 0)) rfl (fun _ => rfl) rfl ?_
  refine ex_go (S := (10, [(0, gx_r 383), (1, .inl 0), (2, .inl 0)], [.inl 11, gx_r 399], t0, n, 0)) rfl (fun _ => rfl) rfl ?_
  have k21 : ai_hv t0 399 11 = some (.inl (σ 11)) := hσ 11 (by decide)
  refine gx_ag (v := .inl (σ 11)) (cb := fun c => Nat.beq c 0) rfl (fun _ => rfl) g0 rfl rfl k21 (by first | decide | omega) rfl ?_
  refine ex_go (S := (12, [(0, gx_r 383), (1, .inl 0), (2, .inl 0)], [.inl 1, .inl (σ 11)], t0, n, 0)) rfl (fun _ => rfl) rfl ?_
  by_cases hc22 : σ 11 ≠ 1
  · refine gx_2t (c := .ne) rfl (by first | decide | omega) (by first | decide | omega) hc22 rfl ?_
    refine ex_go (S := (30, [(0, gx_r 383), (1, .inl 0), (2, .inl 0)], [gx_r 383], t0, n, 0)) rfl (fun _ => rfl) rfl ?_
    refine gx_ref (c := 399) rfl g0 rfl rfl rfl rfl ?_
    refine ex_go (S := (34, [(0, gx_r 383), (1, .inl 0), (2, .inl 0)], [.inl 0, gx_r 399], t0, n, 0)) rfl (fun _ => rfl) rfl ?_
    refine ex_go (S := (35, [(0, gx_r 383), (1, .inl 0), (2, .inl 0)], [.inl 1, .inl 0, gx_r 399], t0, n, 0)) rfl (fun _ => rfl) rfl ?_
    refine ex_go (S := (36, [(0, gx_r 383), (1, .inl 0), (2, .inl 0)], [.inl 1, gx_r 399], t0, n, 0)) rfl (fun _ => rfl) rfl ?_
    refine ex_go (S := (37, [(0, gx_r 383), (1, .inl 0), (2, .inl 0)], [gx_r 383, .inl 1, gx_r 399], t0, n, 0)) rfl (fun _ => rfl) rfl ?_
    refine ex_go (S := (38, [(0, gx_r 383), (1, .inl 0), (2, .inl 0)], [.inl 0, gx_r 383, .inl 1, gx_r 399], t0, n, 0)) rfl (fun _ => rfl) rfl ?_
    refine ex_go (S := (39, [(0, gx_r 383), (1, .inl 0), (2, .inl 0)], [.inl 0, .inl 0, gx_r 383, .inl 1, gx_r 399], t0, n, 0)) rfl (fun _ => rfl) rfl ?_
    obtain ⟨_, r23, rfl⟩ := pe_crewOf (d) n (c := 0) (w := 0) g0 (by first | decide | omega) (by first | decide | omega) (ks0)
    refine gx_call1 rfl rfl g0 rfl rfl r23 rfl ?_
    show en_ex _ _ _ _ (42, [(0, gx_r 383), (1, .inl 0), (2, .inl 0)], [.inl (w 3 0), .inl 1, gx_r 399], t0, n, 0) _
    refine ex_iadd rfl (by first | decide | omega) rfl ?_
    have k24 := (show ai_hv t0 399 (1 + (w 3 0)) = some (.inl (σ (1 + w 3 0))) from by have h9 := hσ (1 + w 3 0) (by first | decide | omega); rw [show 0 + (1 + w 3 0) = 1 + (w 3 0) by omega] at h9; exact h9)
    refine gx_ag (v := .inl (σ (1 + w 3 0))) (cb := fun c => Nat.beq c 0) rfl (fun _ => rfl) g0 rfl rfl k24 (by first | decide | omega) rfl ?_
    refine ex_ret (r := (some (.inl (σ (1 + w 3 0))), t0, n, 0)) rfl (fun _ => rfl) ?_
    have e9 : slp w σ 0 = σ (1 + w 3 0) := by rw [hsl, if_neg (by first | decide | omega)]
    exact ⟨_, rfl, by rw [e9]⟩
  · refine gx_2f (c := .ne) rfl (by first | decide | omega) (by first | decide | omega) hc22 rfl ?_
    refine ex_go (S := (16, [(0, gx_r 383), (1, .inl 0), (2, .inl 0)], [gx_r 383], t0, n, 0)) rfl (fun _ => rfl) rfl ?_
    refine gx_ref (c := 399) rfl g0 rfl rfl rfl rfl ?_
    refine ex_go (S := (20, [(0, gx_r 383), (1, .inl 0), (2, .inl 0)], [.inl 0, gx_r 399], t0, n, 0)) rfl (fun _ => rfl) rfl ?_
    refine ex_go (S := (22, [(0, gx_r 383), (1, .inl 0), (2, .inl 0)], [.inl 13, .inl 0, gx_r 399], t0, n, 0)) rfl (fun _ => rfl) rfl ?_
    refine ex_go (S := (23, [(0, gx_r 383), (1, .inl 0), (2, .inl 0)], [.inl 13, gx_r 399], t0, n, 0)) rfl (fun _ => rfl) rfl ?_
    refine ex_go (S := (24, [(0, gx_r 383), (1, .inl 0), (2, .inl 0)], [.inl 0, .inl 13, gx_r 399], t0, n, 0)) rfl (fun _ => rfl) rfl ?_
    refine ex_go (S := (25, [(0, gx_r 383), (1, .inl 0), (2, .inl 0)], [.inl 13, gx_r 399], t0, n, 0)) rfl (fun _ => rfl) rfl ?_
    have k25 : ai_hv t0 399 13 = some (.inl (σ 13)) := hσ 13 (by decide)
    refine gx_ag (v := .inl (σ 13)) (cb := fun c => Nat.beq c 0) rfl (fun _ => rfl) g0 rfl rfl k25 (by first | decide | omega) rfl ?_
    refine ex_go (S := (44, [(0, gx_r 383), (1, .inl 0), (2, .inl 0)], [.inl (σ 13)], t0, n, 0)) rfl (fun _ => rfl) rfl ?_
    refine ex_ret (r := (some (.inl (σ 13)), t0, n, 0)) rfl (fun _ => rfl) ?_
    have e9 : slp w σ 0 = σ 13 := by rw [hsl, if_pos (by first | decide | omega)]
    exact ⟨_, rfl, by rw [e9]⟩
theorem sr_sled0_1 (d n : Nat) {t0 : en_H} {w : Nat → Nat → Nat} {L : List Nat} {σ : Nat → Nat} (g0 : ai_HG ah_G t0) (hR : RW t0 w L) (hb : sbd σ) (hσ : ∀ j, j < 17 → ai_hv t0 399 (0 + j) = some (.inl (σ j))) (hc : 1 < w 0 4) : ∃ r, en_u (d + 2) 113 [gx_r 383, .inl 0, .inl 1] t0 n = some r ∧ r = (some (.inl (slp w σ 1)), t0, n, 0) := by
  have hw := WS_of hR
  obtain ⟨hb1, ⟨hb7, hb8⟩, ⟨hb11, hb12⟩, ⟨hb13, hb14⟩, ⟨hb15, hb16⟩, hb0, hb9, hb10⟩ := hb
  have hT := hw.1.2.2.1
  have hK := hw.1.2.2.2.2.1
  obtain ⟨ks1, hs1, -⟩ := hR.2.2.2.1 1 (by first | decide | omega)
  have hp1 := hb1 (w 3 1) (by first | decide | omega)
  have hsl : slp w σ 1 = if σ 12 = 1 then σ 14 else σ (1 + w 3 1) := rfl
  refine en_u_ex (d := d + 1) rfl ?_
  show en_ex _ _ _ _ (0, [(0, gx_r 383), (1, .inl 0), (2, .inl 1)], [], t0, n, 0) _
  refine ex_go (S := (1, [(0, gx_r 383), (1, .inl 0), (2, .inl 1)], [gx_r 383], t0, n, 0)) rfl (fun _ => rfl) rfl ?_
  refine gx_ref (c := 399) rfl g0 rfl rfl rfl rfl ?_
  refine ex_go (S := (5, [(0, gx_r 383), (1, .inl 0), (2, .inl 1)], [.inl 0, gx_r 399], t0, n, 0)) rfl (fun _ => rfl) rfl ?_
  refine ex_go (S := (7, [(0, gx_r 383), (1, .inl 0), (2, .inl 1)], [.inl 11, .inl 0, gx_r 399], t0, n, 0)) rfl (fun _ => rfl) rfl ?_
  refine ex_go (S := (8, [(0, gx_r 383), (1, .inl 0), (2, .inl 1)], [.inl 11, gx_r 399], t0, n, 0)) rfl (fun _ => rfl) rfl ?_
  refine ex_go (S := (9, [(0, gx_r 383), (1, .inl 0), (2, .inl 1)], [.inl 1, .inl 11, gx_r 399], t0, n, 0)) rfl (fun _ => rfl) rfl ?_
  refine ex_go (S := (10, [(0, gx_r 383), (1, .inl 0), (2, .inl 1)], [.inl 12, gx_r 399], t0, n, 0)) rfl (fun _ => rfl) rfl ?_
  have k21 : ai_hv t0 399 12 = some (.inl (σ 12)) := hσ 12 (by decide)
  refine gx_ag (v := .inl (σ 12)) (cb := fun c => Nat.beq c 0) rfl (fun _ => rfl) g0 rfl rfl k21 (by first | decide | omega) rfl ?_
  refine ex_go (S := (12, [(0, gx_r 383), (1, .inl 0), (2, .inl 1)], [.inl 1, .inl (σ 12)], t0, n, 0)) rfl (fun _ => rfl) rfl ?_
  by_cases hc22 : σ 12 ≠ 1
  · refine gx_2t (c := .ne) rfl (by first | decide | omega) (by first | decide | omega) hc22 rfl ?_
    refine ex_go (S := (30, [(0, gx_r 383), (1, .inl 0), (2, .inl 1)], [gx_r 383], t0, n, 0)) rfl (fun _ => rfl) rfl ?_
    refine gx_ref (c := 399) rfl g0 rfl rfl rfl rfl ?_
    refine ex_go (S := (34, [(0, gx_r 383), (1, .inl 0), (2, .inl 1)], [.inl 0, gx_r 399], t0, n, 0)) rfl (fun _ => rfl) rfl ?_
    refine ex_go (S := (35, [(0, gx_r 383), (1, .inl 0), (2, .inl 1)], [.inl 1, .inl 0, gx_r 399], t0, n, 0)) rfl (fun _ => rfl) rfl ?_
    refine ex_go (S := (36, [(0, gx_r 383), (1, .inl 0), (2, .inl 1)], [.inl 1, gx_r 399], t0, n, 0)) rfl (fun _ => rfl) rfl ?_
    refine ex_go (S := (37, [(0, gx_r 383), (1, .inl 0), (2, .inl 1)], [gx_r 383, .inl 1, gx_r 399], t0, n, 0)) rfl (fun _ => rfl) rfl ?_
    refine ex_go (S := (38, [(0, gx_r 383), (1, .inl 0), (2, .inl 1)], [.inl 1, gx_r 383, .inl 1, gx_r 399], t0, n, 0)) rfl (fun _ => rfl) rfl ?_
    refine ex_go (S := (39, [(0, gx_r 383), (1, .inl 0), (2, .inl 1)], [.inl 0, .inl 1, gx_r 383, .inl 1, gx_r 399], t0, n, 0)) rfl (fun _ => rfl) rfl ?_
    obtain ⟨_, r23, rfl⟩ := pe_crewOf (d) n (c := 1) (w := 0) g0 (by first | decide | omega) (by first | decide | omega) (ks1)
    refine gx_call1 rfl rfl g0 rfl rfl r23 rfl ?_
    show en_ex _ _ _ _ (42, [(0, gx_r 383), (1, .inl 0), (2, .inl 1)], [.inl (w 3 1), .inl 1, gx_r 399], t0, n, 0) _
    refine ex_iadd rfl (by first | decide | omega) rfl ?_
    have k24 := (show ai_hv t0 399 (1 + (w 3 1)) = some (.inl (σ (1 + w 3 1))) from by have h9 := hσ (1 + w 3 1) (by first | decide | omega); rw [show 0 + (1 + w 3 1) = 1 + (w 3 1) by omega] at h9; exact h9)
    refine gx_ag (v := .inl (σ (1 + w 3 1))) (cb := fun c => Nat.beq c 0) rfl (fun _ => rfl) g0 rfl rfl k24 (by first | decide | omega) rfl ?_
    refine ex_ret (r := (some (.inl (σ (1 + w 3 1))), t0, n, 0)) rfl (fun _ => rfl) ?_
    have e9 : slp w σ 1 = σ (1 + w 3 1) := by rw [hsl, if_neg (by first | decide | omega)]
    exact ⟨_, rfl, by rw [e9]⟩
  · refine gx_2f (c := .ne) rfl (by first | decide | omega) (by first | decide | omega) hc22 rfl ?_
    refine ex_go (S := (16, [(0, gx_r 383), (1, .inl 0), (2, .inl 1)], [gx_r 383], t0, n, 0)) rfl (fun _ => rfl) rfl ?_
    refine gx_ref (c := 399) rfl g0 rfl rfl rfl rfl ?_
    refine ex_go (S := (20, [(0, gx_r 383), (1, .inl 0), (2, .inl 1)], [.inl 0, gx_r 399], t0, n, 0)) rfl (fun _ => rfl) rfl ?_
    refine ex_go (S := (22, [(0, gx_r 383), (1, .inl 0), (2, .inl 1)], [.inl 13, .inl 0, gx_r 399], t0, n, 0)) rfl (fun _ => rfl) rfl ?_
    refine ex_go (S := (23, [(0, gx_r 383), (1, .inl 0), (2, .inl 1)], [.inl 13, gx_r 399], t0, n, 0)) rfl (fun _ => rfl) rfl ?_
    refine ex_go (S := (24, [(0, gx_r 383), (1, .inl 0), (2, .inl 1)], [.inl 1, .inl 13, gx_r 399], t0, n, 0)) rfl (fun _ => rfl) rfl ?_
    refine ex_go (S := (25, [(0, gx_r 383), (1, .inl 0), (2, .inl 1)], [.inl 14, gx_r 399], t0, n, 0)) rfl (fun _ => rfl) rfl ?_
    have k25 : ai_hv t0 399 14 = some (.inl (σ 14)) := hσ 14 (by decide)
    refine gx_ag (v := .inl (σ 14)) (cb := fun c => Nat.beq c 0) rfl (fun _ => rfl) g0 rfl rfl k25 (by first | decide | omega) rfl ?_
    refine ex_go (S := (44, [(0, gx_r 383), (1, .inl 0), (2, .inl 1)], [.inl (σ 14)], t0, n, 0)) rfl (fun _ => rfl) rfl ?_
    refine ex_ret (r := (some (.inl (σ 14)), t0, n, 0)) rfl (fun _ => rfl) ?_
    have e9 : slp w σ 1 = σ 14 := by rw [hsl, if_pos (by first | decide | omega)]
    exact ⟨_, rfl, by rw [e9]⟩
theorem sr_mayH0_0 (d n : Nat) {t0 : en_H} {w : Nat → Nat → Nat} {L : List Nat} {σ : Nat → Nat} {to : Nat} (g0 : ai_HG ah_G t0) (hR : RW t0 w L) (hb : sbd σ) (hσ : ∀ j, j < 17 → ai_hv t0 399 (0 + j) = some (.inl (σ j))) (hB : σ 0 ≤ 900000) (hc : 0 < w 0 4) (ht : to < 64) : ∃ r, en_u (d + 4) 117 [gx_r 383, .inl 0, .inl 0, .inl to] t0 n = some r ∧ ∃ v t', r = (some (.inl v), t', n, 0) ∧ ai_HG ah_G t' ∧ (∀ c i, ¬ (c = 401 ∨ c = 402) → ai_hv t' c i = ai_hv t0 c i) ∧ v ≤ 1 ∧ (v = 1 ↔ mayH w σ 0 to) := by
  have hb' := hb
  have hsp := slp_lt (WS_of hR) hb hc
  have hw := WS_of hR
  obtain ⟨hb1, ⟨hb7, hb8⟩, ⟨hb11, hb12⟩, ⟨hb13, hb14⟩, ⟨hb15, hb16⟩, hb0, hb9, hb10⟩ := hb
  have hT := hw.1.2.2.1
  have hK := hw.1.2.2.2.2.1
  refine en_u_ex (d := d + 3) rfl ?_
  show en_ex _ _ _ _ (0, [(0, gx_r 383), (1, .inl 0), (2, .inl 0), (3, .inl to)], [], t0, n, 0) _
  refine ex_go (S := (1, [(0, gx_r 383), (1, .inl 0), (2, .inl 0), (3, .inl to)], [gx_r 383], t0, n, 0)) rfl (fun _ => rfl) rfl ?_
  refine gx_ref (c := 399) rfl g0 rfl rfl rfl rfl ?_
  refine ex_go (S := (5, [(0, gx_r 383), (1, .inl 0), (2, .inl 0), (3, .inl to)], [.inl 0, gx_r 399], t0, n, 0)) rfl (fun _ => rfl) rfl ?_
  refine ex_go (S := (7, [(0, gx_r 383), (1, .inl 0), (2, .inl 0), (3, .inl to)], [.inl 15, .inl 0, gx_r 399], t0, n, 0)) rfl (fun _ => rfl) rfl ?_
  refine ex_go (S := (8, [(0, gx_r 383), (1, .inl 0), (2, .inl 0), (3, .inl to)], [.inl 15, gx_r 399], t0, n, 0)) rfl (fun _ => rfl) rfl ?_
  refine ex_go (S := (9, [(0, gx_r 383), (1, .inl 0), (2, .inl 0), (3, .inl to)], [.inl 0, .inl 15, gx_r 399], t0, n, 0)) rfl (fun _ => rfl) rfl ?_
  refine ex_go (S := (10, [(0, gx_r 383), (1, .inl 0), (2, .inl 0), (3, .inl to)], [.inl 15, gx_r 399], t0, n, 0)) rfl (fun _ => rfl) rfl ?_
  have k21 : ai_hv t0 399 15 = some (.inl (σ 15)) := hσ 15 (by decide)
  refine gx_ag (v := .inl (σ 15)) (cb := fun c => Nat.beq c 0) rfl (fun _ => rfl) g0 rfl rfl k21 (by first | decide | omega) rfl ?_
  refine ex_go (S := (12, [(0, gx_r 383), (1, .inl 0), (2, .inl 0), (3, .inl to)], [.inl 1, .inl (σ 15)], t0, n, 0)) rfl (fun _ => rfl) rfl ?_
  by_cases hc22 : σ 15 = 1
  · refine gx_2t (c := .eq) rfl (by first | decide | omega) (by first | decide | omega) hc22 rfl ?_
    refine ex_go (S := (26, [(0, gx_r 383), (1, .inl 0), (2, .inl 0), (3, .inl to)], [.inl 0], t0, n, 0)) rfl (fun _ => rfl) rfl ?_
    refine ex_ret (r := (some (.inl 0), t0, n, 0)) rfl (fun _ => rfl) ?_
    exact ⟨_, rfl, 0, t0, rfl, g0, (fun c i h => rfl), by decide, fun z => absurd z (by decide), fun z => by
      obtain ⟨z1, z2, -⟩ := z
      have z1 : ¬ σ 15 = 1 := z1
      omega⟩
  · refine gx_2f (c := .eq) rfl (by first | decide | omega) (by first | decide | omega) hc22 rfl ?_
    refine ex_go (S := (16, [(0, gx_r 383), (1, .inl 0), (2, .inl 0), (3, .inl to)], [gx_r 383], t0, n, 0)) rfl (fun _ => rfl) rfl ?_
    refine ex_go (S := (17, [(0, gx_r 383), (1, .inl 0), (2, .inl 0), (3, .inl to)], [.inl 0, gx_r 383], t0, n, 0)) rfl (fun _ => rfl) rfl ?_
    refine ex_go (S := (18, [(0, gx_r 383), (1, .inl 0), (2, .inl 0), (3, .inl to)], [.inl 0, .inl 0, gx_r 383], t0, n, 0)) rfl (fun _ => rfl) rfl ?_
    obtain ⟨_, r23, rfl⟩ := sr_sled0_0 (d + 1) n g0 hR hb' (fun j hj => hσ j hj) hc
    refine gx_call1 rfl rfl g0 rfl rfl r23 rfl ?_
    show en_ex _ _ _ _ (21, [(0, gx_r 383), (1, .inl 0), (2, .inl 0), (3, .inl to)], [.inl (slp w σ 0)], t0, n, 0) _
    refine ex_go (S := (22, [(0, gx_r 383), (1, .inl 0), (2, .inl 0), (3, .inl to)], [.inl to, .inl (slp w σ 0)], t0, n, 0)) rfl (fun _ => rfl) rfl ?_
    by_cases hc24 : slp w σ 0 ≠ to
    · refine gx_2t (c := .ne) rfl (by first | decide | omega) (by first | decide | omega) hc24 rfl ?_
      refine ex_go (S := (28, [(0, gx_r 383), (1, .inl 0), (2, .inl 0), (3, .inl to)], [gx_r 383], t0, n, 0)) rfl (fun _ => rfl) rfl ?_
      refine ex_go (S := (29, [(0, gx_r 383), (1, .inl 0), (2, .inl 0), (3, .inl to)], [gx_r 383, gx_r 383], t0, n, 0)) rfl (fun _ => rfl) rfl ?_
      refine ex_go (S := (30, [(0, gx_r 383), (1, .inl 0), (2, .inl 0), (3, .inl to)], [.inl 0, gx_r 383, gx_r 383], t0, n, 0)) rfl (fun _ => rfl) rfl ?_
      refine ex_go (S := (31, [(0, gx_r 383), (1, .inl 0), (2, .inl 0), (3, .inl to)], [.inl 0, .inl 0, gx_r 383, gx_r 383], t0, n, 0)) rfl (fun _ => rfl) rfl ?_
      obtain ⟨_, r25, rfl⟩ := sr_sled0_0 (d + 1) n g0 hR hb' (fun j hj => hσ j hj) hc
      refine gx_call1 rfl rfl g0 rfl rfl r25 rfl ?_
      show en_ex _ _ _ _ (34, [(0, gx_r 383), (1, .inl 0), (2, .inl 0), (3, .inl to)], [.inl (slp w σ 0), gx_r 383], t0, n, 0) _
      obtain ⟨_, r126, t126, rfl, g126, e126, h126⟩ := sr_clearsHere (d + 2) n g0 hsp
      refine gx_call0 rfl rfl g0 rfl rfl r126 rfl ?_
      have k27 : ai_hv t126 399 15 = some (.inl (σ 15)) := (e126 399 15 (by first | decide | omega)).trans k21
      show en_ex _ _ _ _ (37, [(0, gx_r 383), (1, .inl 0), (2, .inl 0), (3, .inl to)], [], t126, n, 0) _
      refine ex_go (S := (38, [(0, gx_r 383), (1, .inl 0), (2, .inl 0), (3, .inl to)], [gx_r 383], t126, n, 0)) rfl (fun _ => rfl) rfl ?_
      refine ex_go (S := (39, [(0, gx_r 383), (1, .inl 0), (2, .inl 0), (3, .inl to)], [gx_r 383, gx_r 383], t126, n, 0)) rfl (fun _ => rfl) rfl ?_
      refine gx_ref (c := 399) rfl g126 rfl rfl rfl rfl ?_
      refine ex_go (S := (43, [(0, gx_r 383), (1, .inl 0), (2, .inl 0), (3, .inl to)], [.inl 0, gx_r 399, gx_r 383], t126, n, 0)) rfl (fun _ => rfl) rfl ?_
      refine ex_go (S := (44, [(0, gx_r 383), (1, .inl 0), (2, .inl 0), (3, .inl to)], [.inl 0, .inl 0, gx_r 399, gx_r 383], t126, n, 0)) rfl (fun _ => rfl) rfl ?_
      refine ex_go (S := (45, [(0, gx_r 383), (1, .inl 0), (2, .inl 0), (3, .inl to)], [.inl 0, gx_r 399, gx_r 383], t126, n, 0)) rfl (fun _ => rfl) rfl ?_
      have k28 : ai_hv t126 399 0 = some (.inl (σ 0)) := (e126 399 0 (by first | decide | omega)).trans (hσ 0 (by decide))
      refine gx_ag (v := .inl (σ 0)) (cb := fun c => Nat.beq c 0) rfl (fun _ => rfl) g126 rfl rfl k28 (by first | decide | omega) rfl ?_
      obtain ⟨_, r129, t129, rfl, g129, e129, h129⟩ := sr_hauls d n (s := σ 0) g126 (RW_keep hR (fun i hi => e126 389 i (by first | decide | omega)) (fun c i hc _ => e126 c i (by first | decide | omega))) (by first | decide | omega) h126
      refine gx_call0 rfl rfl g126 rfl rfl r129 rfl ?_
      have k30 : ai_hv t129 399 15 = some (.inl (σ 15)) := (e129 399 15 (by first | decide | omega)).trans k27
      have k31 : ai_hv t129 399 0 = some (.inl (σ 0)) := (e129 399 0 (by first | decide | omega)).trans k28
      show en_ex _ _ _ _ (49, [(0, gx_r 383), (1, .inl 0), (2, .inl 0), (3, .inl to)], [], t129, n, 0) _
      refine ex_go (S := (50, [(0, gx_r 383), (1, .inl 0), (2, .inl 0), (3, .inl to)], [gx_r 383], t129, n, 0)) rfl (fun _ => rfl) rfl ?_
      refine gx_ref (c := 401) rfl g129 rfl rfl rfl rfl ?_
      refine ex_go (S := (54, [(0, gx_r 383), (1, .inl 0), (2, .inl 0), (3, .inl to)], [.inl to, gx_r 401], t129, n, 0)) rfl (fun _ => rfl) rfl ?_
      have k32 := h129 to ht
      have hbv := bv_le (b := hit w (σ 0) (w 0 5) (fun q => decide (q = slp w σ 0)) to)
      refine gx_ag (v := .inl (bv (hit w (σ 0) (w 0 5) (fun q => decide (q = slp w σ 0)) to))) (cb := fun c => Nat.beq c 2 || Nat.beq c 1) rfl (fun _ => rfl) g129 rfl rfl k32 (by first | decide | omega) rfl ?_
      refine gx_retb rfl (by first | decide | omega) ?_
      refine ⟨_, rfl, _, t129, rfl, g129, (fun c i h => (e129 c i (by first | decide | omega)).trans (e126 c i (by first | decide | omega))), hbv, fun z => ⟨?_, ?_, bv_1 (by first | decide | omega)⟩, fun z => bv_t z.2.2⟩
      · show ¬ σ 15 = 1
        omega
      · omega
    · refine gx_2f (c := .ne) rfl (by first | decide | omega) (by first | decide | omega) hc24 rfl ?_
      refine ex_go (S := (26, [(0, gx_r 383), (1, .inl 0), (2, .inl 0), (3, .inl to)], [.inl 0], t0, n, 0)) rfl (fun _ => rfl) rfl ?_
      refine ex_ret (r := (some (.inl 0), t0, n, 0)) rfl (fun _ => rfl) ?_
      exact ⟨_, rfl, 0, t0, rfl, g0, (fun c i h => rfl), by decide, fun z => absurd z (by decide), fun z => by
        obtain ⟨z1, z2, -⟩ := z
        have z1 : ¬ σ 15 = 1 := z1
        omega⟩
theorem sr_mayH0_1 (d n : Nat) {t0 : en_H} {w : Nat → Nat → Nat} {L : List Nat} {σ : Nat → Nat} {to : Nat} (g0 : ai_HG ah_G t0) (hR : RW t0 w L) (hb : sbd σ) (hσ : ∀ j, j < 17 → ai_hv t0 399 (0 + j) = some (.inl (σ j))) (hB : σ 0 ≤ 900000) (hc : 1 < w 0 4) (ht : to < 64) : ∃ r, en_u (d + 4) 117 [gx_r 383, .inl 0, .inl 1, .inl to] t0 n = some r ∧ ∃ v t', r = (some (.inl v), t', n, 0) ∧ ai_HG ah_G t' ∧ (∀ c i, ¬ (c = 401 ∨ c = 402) → ai_hv t' c i = ai_hv t0 c i) ∧ v ≤ 1 ∧ (v = 1 ↔ mayH w σ 1 to) := by
  have hb' := hb
  have hsp := slp_lt (WS_of hR) hb hc
  have hw := WS_of hR
  obtain ⟨hb1, ⟨hb7, hb8⟩, ⟨hb11, hb12⟩, ⟨hb13, hb14⟩, ⟨hb15, hb16⟩, hb0, hb9, hb10⟩ := hb
  have hT := hw.1.2.2.1
  have hK := hw.1.2.2.2.2.1
  refine en_u_ex (d := d + 3) rfl ?_
  show en_ex _ _ _ _ (0, [(0, gx_r 383), (1, .inl 0), (2, .inl 1), (3, .inl to)], [], t0, n, 0) _
  refine ex_go (S := (1, [(0, gx_r 383), (1, .inl 0), (2, .inl 1), (3, .inl to)], [gx_r 383], t0, n, 0)) rfl (fun _ => rfl) rfl ?_
  refine gx_ref (c := 399) rfl g0 rfl rfl rfl rfl ?_
  refine ex_go (S := (5, [(0, gx_r 383), (1, .inl 0), (2, .inl 1), (3, .inl to)], [.inl 0, gx_r 399], t0, n, 0)) rfl (fun _ => rfl) rfl ?_
  refine ex_go (S := (7, [(0, gx_r 383), (1, .inl 0), (2, .inl 1), (3, .inl to)], [.inl 15, .inl 0, gx_r 399], t0, n, 0)) rfl (fun _ => rfl) rfl ?_
  refine ex_go (S := (8, [(0, gx_r 383), (1, .inl 0), (2, .inl 1), (3, .inl to)], [.inl 15, gx_r 399], t0, n, 0)) rfl (fun _ => rfl) rfl ?_
  refine ex_go (S := (9, [(0, gx_r 383), (1, .inl 0), (2, .inl 1), (3, .inl to)], [.inl 1, .inl 15, gx_r 399], t0, n, 0)) rfl (fun _ => rfl) rfl ?_
  refine ex_go (S := (10, [(0, gx_r 383), (1, .inl 0), (2, .inl 1), (3, .inl to)], [.inl 16, gx_r 399], t0, n, 0)) rfl (fun _ => rfl) rfl ?_
  have k21 : ai_hv t0 399 16 = some (.inl (σ 16)) := hσ 16 (by decide)
  refine gx_ag (v := .inl (σ 16)) (cb := fun c => Nat.beq c 0) rfl (fun _ => rfl) g0 rfl rfl k21 (by first | decide | omega) rfl ?_
  refine ex_go (S := (12, [(0, gx_r 383), (1, .inl 0), (2, .inl 1), (3, .inl to)], [.inl 1, .inl (σ 16)], t0, n, 0)) rfl (fun _ => rfl) rfl ?_
  by_cases hc22 : σ 16 = 1
  · refine gx_2t (c := .eq) rfl (by first | decide | omega) (by first | decide | omega) hc22 rfl ?_
    refine ex_go (S := (26, [(0, gx_r 383), (1, .inl 0), (2, .inl 1), (3, .inl to)], [.inl 0], t0, n, 0)) rfl (fun _ => rfl) rfl ?_
    refine ex_ret (r := (some (.inl 0), t0, n, 0)) rfl (fun _ => rfl) ?_
    exact ⟨_, rfl, 0, t0, rfl, g0, (fun c i h => rfl), by decide, fun z => absurd z (by decide), fun z => by
      obtain ⟨z1, z2, -⟩ := z
      have z1 : ¬ σ 16 = 1 := z1
      omega⟩
  · refine gx_2f (c := .eq) rfl (by first | decide | omega) (by first | decide | omega) hc22 rfl ?_
    refine ex_go (S := (16, [(0, gx_r 383), (1, .inl 0), (2, .inl 1), (3, .inl to)], [gx_r 383], t0, n, 0)) rfl (fun _ => rfl) rfl ?_
    refine ex_go (S := (17, [(0, gx_r 383), (1, .inl 0), (2, .inl 1), (3, .inl to)], [.inl 0, gx_r 383], t0, n, 0)) rfl (fun _ => rfl) rfl ?_
    refine ex_go (S := (18, [(0, gx_r 383), (1, .inl 0), (2, .inl 1), (3, .inl to)], [.inl 1, .inl 0, gx_r 383], t0, n, 0)) rfl (fun _ => rfl) rfl ?_
    obtain ⟨_, r23, rfl⟩ := sr_sled0_1 (d + 1) n g0 hR hb' (fun j hj => hσ j hj) hc
    refine gx_call1 rfl rfl g0 rfl rfl r23 rfl ?_
    show en_ex _ _ _ _ (21, [(0, gx_r 383), (1, .inl 0), (2, .inl 1), (3, .inl to)], [.inl (slp w σ 1)], t0, n, 0) _
    refine ex_go (S := (22, [(0, gx_r 383), (1, .inl 0), (2, .inl 1), (3, .inl to)], [.inl to, .inl (slp w σ 1)], t0, n, 0)) rfl (fun _ => rfl) rfl ?_
    by_cases hc24 : slp w σ 1 ≠ to
    · refine gx_2t (c := .ne) rfl (by first | decide | omega) (by first | decide | omega) hc24 rfl ?_
      refine ex_go (S := (28, [(0, gx_r 383), (1, .inl 0), (2, .inl 1), (3, .inl to)], [gx_r 383], t0, n, 0)) rfl (fun _ => rfl) rfl ?_
      refine ex_go (S := (29, [(0, gx_r 383), (1, .inl 0), (2, .inl 1), (3, .inl to)], [gx_r 383, gx_r 383], t0, n, 0)) rfl (fun _ => rfl) rfl ?_
      refine ex_go (S := (30, [(0, gx_r 383), (1, .inl 0), (2, .inl 1), (3, .inl to)], [.inl 0, gx_r 383, gx_r 383], t0, n, 0)) rfl (fun _ => rfl) rfl ?_
      refine ex_go (S := (31, [(0, gx_r 383), (1, .inl 0), (2, .inl 1), (3, .inl to)], [.inl 1, .inl 0, gx_r 383, gx_r 383], t0, n, 0)) rfl (fun _ => rfl) rfl ?_
      obtain ⟨_, r25, rfl⟩ := sr_sled0_1 (d + 1) n g0 hR hb' (fun j hj => hσ j hj) hc
      refine gx_call1 rfl rfl g0 rfl rfl r25 rfl ?_
      show en_ex _ _ _ _ (34, [(0, gx_r 383), (1, .inl 0), (2, .inl 1), (3, .inl to)], [.inl (slp w σ 1), gx_r 383], t0, n, 0) _
      obtain ⟨_, r126, t126, rfl, g126, e126, h126⟩ := sr_clearsHere (d + 2) n g0 hsp
      refine gx_call0 rfl rfl g0 rfl rfl r126 rfl ?_
      have k27 : ai_hv t126 399 16 = some (.inl (σ 16)) := (e126 399 16 (by first | decide | omega)).trans k21
      show en_ex _ _ _ _ (37, [(0, gx_r 383), (1, .inl 0), (2, .inl 1), (3, .inl to)], [], t126, n, 0) _
      refine ex_go (S := (38, [(0, gx_r 383), (1, .inl 0), (2, .inl 1), (3, .inl to)], [gx_r 383], t126, n, 0)) rfl (fun _ => rfl) rfl ?_
      refine ex_go (S := (39, [(0, gx_r 383), (1, .inl 0), (2, .inl 1), (3, .inl to)], [gx_r 383, gx_r 383], t126, n, 0)) rfl (fun _ => rfl) rfl ?_
      refine gx_ref (c := 399) rfl g126 rfl rfl rfl rfl ?_
      refine ex_go (S := (43, [(0, gx_r 383), (1, .inl 0), (2, .inl 1), (3, .inl to)], [.inl 0, gx_r 399, gx_r 383], t126, n, 0)) rfl (fun _ => rfl) rfl ?_
      refine ex_go (S := (44, [(0, gx_r 383), (1, .inl 0), (2, .inl 1), (3, .inl to)], [.inl 0, .inl 0, gx_r 399, gx_r 383], t126, n, 0)) rfl (fun _ => rfl) rfl ?_
      refine ex_go (S := (45, [(0, gx_r 383), (1, .inl 0), (2, .inl 1), (3, .inl to)], [.inl 0, gx_r 399, gx_r 383], t126, n, 0)) rfl (fun _ => rfl) rfl ?_
      have k28 : ai_hv t126 399 0 = some (.inl (σ 0)) := (e126 399 0 (by first | decide | omega)).trans (hσ 0 (by decide))
      refine gx_ag (v := .inl (σ 0)) (cb := fun c => Nat.beq c 0) rfl (fun _ => rfl) g126 rfl rfl k28 (by first | decide | omega) rfl ?_
      obtain ⟨_, r129, t129, rfl, g129, e129, h129⟩ := sr_hauls d n (s := σ 0) g126 (RW_keep hR (fun i hi => e126 389 i (by first | decide | omega)) (fun c i hc _ => e126 c i (by first | decide | omega))) (by first | decide | omega) h126
      refine gx_call0 rfl rfl g126 rfl rfl r129 rfl ?_
      have k30 : ai_hv t129 399 16 = some (.inl (σ 16)) := (e129 399 16 (by first | decide | omega)).trans k27
      have k31 : ai_hv t129 399 0 = some (.inl (σ 0)) := (e129 399 0 (by first | decide | omega)).trans k28
      show en_ex _ _ _ _ (49, [(0, gx_r 383), (1, .inl 0), (2, .inl 1), (3, .inl to)], [], t129, n, 0) _
      refine ex_go (S := (50, [(0, gx_r 383), (1, .inl 0), (2, .inl 1), (3, .inl to)], [gx_r 383], t129, n, 0)) rfl (fun _ => rfl) rfl ?_
      refine gx_ref (c := 401) rfl g129 rfl rfl rfl rfl ?_
      refine ex_go (S := (54, [(0, gx_r 383), (1, .inl 0), (2, .inl 1), (3, .inl to)], [.inl to, gx_r 401], t129, n, 0)) rfl (fun _ => rfl) rfl ?_
      have k32 := h129 to ht
      have hbv := bv_le (b := hit w (σ 0) (w 0 5) (fun q => decide (q = slp w σ 1)) to)
      refine gx_ag (v := .inl (bv (hit w (σ 0) (w 0 5) (fun q => decide (q = slp w σ 1)) to))) (cb := fun c => Nat.beq c 2 || Nat.beq c 1) rfl (fun _ => rfl) g129 rfl rfl k32 (by first | decide | omega) rfl ?_
      refine gx_retb rfl (by first | decide | omega) ?_
      refine ⟨_, rfl, _, t129, rfl, g129, (fun c i h => (e129 c i (by first | decide | omega)).trans (e126 c i (by first | decide | omega))), hbv, fun z => ⟨?_, ?_, bv_1 (by first | decide | omega)⟩, fun z => bv_t z.2.2⟩
      · show ¬ σ 16 = 1
        omega
      · omega
    · refine gx_2f (c := .ne) rfl (by first | decide | omega) (by first | decide | omega) hc24 rfl ?_
      refine ex_go (S := (26, [(0, gx_r 383), (1, .inl 0), (2, .inl 1), (3, .inl to)], [.inl 0], t0, n, 0)) rfl (fun _ => rfl) rfl ?_
      refine ex_ret (r := (some (.inl 0), t0, n, 0)) rfl (fun _ => rfl) ?_
      exact ⟨_, rfl, 0, t0, rfl, g0, (fun c i h => rfl), by decide, fun z => absurd z (by decide), fun z => by
        obtain ⟨z1, z2, -⟩ := z
        have z1 : ¬ σ 16 = 1 := z1
        omega⟩
theorem sr_hto0_0 (d n : Nat) {t0 : en_H} {w : Nat → Nat → Nat} {L : List Nat} {σ : Nat → Nat} {to : Nat} (g0 : ai_HG ah_G t0) (hσ : ∀ j, j < 17 → ai_hv t0 399 (0 + j) = some (.inl (σ j))) (ht : to < 64) : ∃ r, en_u (d + 1) 118 [gx_r 383, .inl 0, .inl 0, .inl to] t0 n = some r ∧ ∃ t', r = (none, t', n, 0) ∧ ai_HG ah_G t' ∧ (∀ c i, ¬ (c = 399 ∧ 0 ≤ i ∧ i < 17) → ai_hv t' c i = ai_hv t0 c i) ∧ (∀ j, j < 17 → ai_hv t' 399 (0 + j) = some (.inl (sgH σ 0 to j))) := by
  refine en_u_ex rfl ?_
  show en_ex _ _ _ _ (0, [(0, gx_r 383), (1, .inl 0), (2, .inl 0), (3, .inl to)], [], t0, n, 0) _
  refine ex_go (S := (1, [(0, gx_r 383), (1, .inl 0), (2, .inl 0), (3, .inl to)], [gx_r 383], t0, n, 0)) rfl (fun _ => rfl) rfl ?_
  refine gx_ref (c := 399) rfl g0 rfl rfl rfl rfl ?_
  refine ex_go (S := (5, [(0, gx_r 383), (1, .inl 0), (2, .inl 0), (3, .inl to)], [.inl 0, gx_r 399], t0, n, 0)) rfl (fun _ => rfl) rfl ?_
  refine ex_go (S := (7, [(0, gx_r 383), (1, .inl 0), (2, .inl 0), (3, .inl to)], [.inl 11, .inl 0, gx_r 399], t0, n, 0)) rfl (fun _ => rfl) rfl ?_
  refine ex_go (S := (8, [(0, gx_r 383), (1, .inl 0), (2, .inl 0), (3, .inl to)], [.inl 11, gx_r 399], t0, n, 0)) rfl (fun _ => rfl) rfl ?_
  refine ex_go (S := (9, [(0, gx_r 383), (1, .inl 0), (2, .inl 0), (3, .inl to)], [.inl 0, .inl 11, gx_r 399], t0, n, 0)) rfl (fun _ => rfl) rfl ?_
  refine ex_go (S := (10, [(0, gx_r 383), (1, .inl 0), (2, .inl 0), (3, .inl to)], [.inl 11, gx_r 399], t0, n, 0)) rfl (fun _ => rfl) rfl ?_
  refine ex_go (S := (11, [(0, gx_r 383), (1, .inl 0), (2, .inl 0), (3, .inl to)], [.inl 1, .inl 11, gx_r 399], t0, n, 0)) rfl (fun _ => rfl) rfl ?_
  refine gx_ap rfl (fun _ => rfl) g0 rfl rfl rfl (show 11 < 1035 from by omega) rfl (ai_in_h (by first | decide | omega) (by first | decide | omega) (by first | decide | omega)) rfl (fun t121 g121 k121 e121 => ?_)
  refine ex_go (S := (13, [(0, gx_r 383), (1, .inl 0), (2, .inl 0), (3, .inl to)], [gx_r 383], t121, n, 0)) rfl (fun _ => rfl) rfl ?_
  refine gx_ref (c := 399) rfl g121 rfl rfl rfl rfl ?_
  refine ex_go (S := (17, [(0, gx_r 383), (1, .inl 0), (2, .inl 0), (3, .inl to)], [.inl 0, gx_r 399], t121, n, 0)) rfl (fun _ => rfl) rfl ?_
  refine ex_go (S := (19, [(0, gx_r 383), (1, .inl 0), (2, .inl 0), (3, .inl to)], [.inl 13, .inl 0, gx_r 399], t121, n, 0)) rfl (fun _ => rfl) rfl ?_
  refine ex_go (S := (20, [(0, gx_r 383), (1, .inl 0), (2, .inl 0), (3, .inl to)], [.inl 13, gx_r 399], t121, n, 0)) rfl (fun _ => rfl) rfl ?_
  refine ex_go (S := (21, [(0, gx_r 383), (1, .inl 0), (2, .inl 0), (3, .inl to)], [.inl 0, .inl 13, gx_r 399], t121, n, 0)) rfl (fun _ => rfl) rfl ?_
  refine ex_go (S := (22, [(0, gx_r 383), (1, .inl 0), (2, .inl 0), (3, .inl to)], [.inl 13, gx_r 399], t121, n, 0)) rfl (fun _ => rfl) rfl ?_
  refine ex_go (S := (23, [(0, gx_r 383), (1, .inl 0), (2, .inl 0), (3, .inl to)], [.inl to, .inl 13, gx_r 399], t121, n, 0)) rfl (fun _ => rfl) rfl ?_
  refine gx_ap rfl (fun _ => rfl) g121 rfl rfl rfl (show 13 < 1035 from by omega) rfl (ai_in_h (by first | decide | omega) (by first | decide | omega) (by first | decide | omega)) rfl (fun t122 g122 k122 e122 => ?_)
  have k23 : ai_hv t122 399 11 = some (.inl 1) := (e122 399 11 (by first | decide | omega)).trans k121
  refine ex_go (S := (25, [(0, gx_r 383), (1, .inl 0), (2, .inl 0), (3, .inl to)], [gx_r 383], t122, n, 0)) rfl (fun _ => rfl) rfl ?_
  refine gx_ref (c := 399) rfl g122 rfl rfl rfl rfl ?_
  refine ex_go (S := (29, [(0, gx_r 383), (1, .inl 0), (2, .inl 0), (3, .inl to)], [.inl 0, gx_r 399], t122, n, 0)) rfl (fun _ => rfl) rfl ?_
  refine ex_go (S := (31, [(0, gx_r 383), (1, .inl 0), (2, .inl 0), (3, .inl to)], [.inl 15, .inl 0, gx_r 399], t122, n, 0)) rfl (fun _ => rfl) rfl ?_
  refine ex_go (S := (32, [(0, gx_r 383), (1, .inl 0), (2, .inl 0), (3, .inl to)], [.inl 15, gx_r 399], t122, n, 0)) rfl (fun _ => rfl) rfl ?_
  refine ex_go (S := (33, [(0, gx_r 383), (1, .inl 0), (2, .inl 0), (3, .inl to)], [.inl 0, .inl 15, gx_r 399], t122, n, 0)) rfl (fun _ => rfl) rfl ?_
  refine ex_go (S := (34, [(0, gx_r 383), (1, .inl 0), (2, .inl 0), (3, .inl to)], [.inl 15, gx_r 399], t122, n, 0)) rfl (fun _ => rfl) rfl ?_
  refine ex_go (S := (35, [(0, gx_r 383), (1, .inl 0), (2, .inl 0), (3, .inl to)], [.inl 1, .inl 15, gx_r 399], t122, n, 0)) rfl (fun _ => rfl) rfl ?_
  refine gx_ap rfl (fun _ => rfl) g122 rfl rfl rfl (show 15 < 1035 from by omega) rfl (ai_in_h (by first | decide | omega) (by first | decide | omega) (by first | decide | omega)) rfl (fun t124 g124 k124 e124 => ?_)
  have k25 : ai_hv t124 399 11 = some (.inl 1) := (e124 399 11 (by first | decide | omega)).trans k23
  have k26 : ai_hv t124 399 13 = some (.inl to) := (e124 399 13 (by first | decide | omega)).trans k122
  refine ex_ret (r := (none, t124, n, 0)) rfl (fun _ => rfl) ?_
  refine ⟨_, rfl, t124, rfl, g124, (fun c i h => (e124 c i (by first | decide | omega)).trans ((e122 c i (by first | decide | omega)).trans (e121 c i (by first | decide | omega)))), fun j hj => ?_⟩
  rcases (show j = 11 ∨ j = 13 ∨ j = 15 ∨ (j ≠ 11 ∧ j ≠ 13 ∧ j ≠ 15) by omega) with rfl | rfl | rfl | h9
  · exact k25
  · exact k26
  · exact k124
  · have e9 : sgH σ 0 to j = σ j := by
      show (if j = 11 then 1 else if j = 13 then to else if j = 15 then 1 else σ j) = σ j
      rw [if_neg (by first | decide | omega), if_neg (by first | decide | omega), if_neg (by first | decide | omega)]
    rw [e9]
    exact ((e124 399 _ (by first | decide | omega)).trans ((e122 399 _ (by first | decide | omega)).trans (e121 399 _ (by first | decide | omega)))).trans (hσ j hj)
theorem sr_hto0_1 (d n : Nat) {t0 : en_H} {w : Nat → Nat → Nat} {L : List Nat} {σ : Nat → Nat} {to : Nat} (g0 : ai_HG ah_G t0) (hσ : ∀ j, j < 17 → ai_hv t0 399 (0 + j) = some (.inl (σ j))) (ht : to < 64) : ∃ r, en_u (d + 1) 118 [gx_r 383, .inl 0, .inl 1, .inl to] t0 n = some r ∧ ∃ t', r = (none, t', n, 0) ∧ ai_HG ah_G t' ∧ (∀ c i, ¬ (c = 399 ∧ 0 ≤ i ∧ i < 17) → ai_hv t' c i = ai_hv t0 c i) ∧ (∀ j, j < 17 → ai_hv t' 399 (0 + j) = some (.inl (sgH σ 1 to j))) := by
  refine en_u_ex rfl ?_
  show en_ex _ _ _ _ (0, [(0, gx_r 383), (1, .inl 0), (2, .inl 1), (3, .inl to)], [], t0, n, 0) _
  refine ex_go (S := (1, [(0, gx_r 383), (1, .inl 0), (2, .inl 1), (3, .inl to)], [gx_r 383], t0, n, 0)) rfl (fun _ => rfl) rfl ?_
  refine gx_ref (c := 399) rfl g0 rfl rfl rfl rfl ?_
  refine ex_go (S := (5, [(0, gx_r 383), (1, .inl 0), (2, .inl 1), (3, .inl to)], [.inl 0, gx_r 399], t0, n, 0)) rfl (fun _ => rfl) rfl ?_
  refine ex_go (S := (7, [(0, gx_r 383), (1, .inl 0), (2, .inl 1), (3, .inl to)], [.inl 11, .inl 0, gx_r 399], t0, n, 0)) rfl (fun _ => rfl) rfl ?_
  refine ex_go (S := (8, [(0, gx_r 383), (1, .inl 0), (2, .inl 1), (3, .inl to)], [.inl 11, gx_r 399], t0, n, 0)) rfl (fun _ => rfl) rfl ?_
  refine ex_go (S := (9, [(0, gx_r 383), (1, .inl 0), (2, .inl 1), (3, .inl to)], [.inl 1, .inl 11, gx_r 399], t0, n, 0)) rfl (fun _ => rfl) rfl ?_
  refine ex_go (S := (10, [(0, gx_r 383), (1, .inl 0), (2, .inl 1), (3, .inl to)], [.inl 12, gx_r 399], t0, n, 0)) rfl (fun _ => rfl) rfl ?_
  refine ex_go (S := (11, [(0, gx_r 383), (1, .inl 0), (2, .inl 1), (3, .inl to)], [.inl 1, .inl 12, gx_r 399], t0, n, 0)) rfl (fun _ => rfl) rfl ?_
  refine gx_ap rfl (fun _ => rfl) g0 rfl rfl rfl (show 12 < 1035 from by omega) rfl (ai_in_h (by first | decide | omega) (by first | decide | omega) (by first | decide | omega)) rfl (fun t121 g121 k121 e121 => ?_)
  refine ex_go (S := (13, [(0, gx_r 383), (1, .inl 0), (2, .inl 1), (3, .inl to)], [gx_r 383], t121, n, 0)) rfl (fun _ => rfl) rfl ?_
  refine gx_ref (c := 399) rfl g121 rfl rfl rfl rfl ?_
  refine ex_go (S := (17, [(0, gx_r 383), (1, .inl 0), (2, .inl 1), (3, .inl to)], [.inl 0, gx_r 399], t121, n, 0)) rfl (fun _ => rfl) rfl ?_
  refine ex_go (S := (19, [(0, gx_r 383), (1, .inl 0), (2, .inl 1), (3, .inl to)], [.inl 13, .inl 0, gx_r 399], t121, n, 0)) rfl (fun _ => rfl) rfl ?_
  refine ex_go (S := (20, [(0, gx_r 383), (1, .inl 0), (2, .inl 1), (3, .inl to)], [.inl 13, gx_r 399], t121, n, 0)) rfl (fun _ => rfl) rfl ?_
  refine ex_go (S := (21, [(0, gx_r 383), (1, .inl 0), (2, .inl 1), (3, .inl to)], [.inl 1, .inl 13, gx_r 399], t121, n, 0)) rfl (fun _ => rfl) rfl ?_
  refine ex_go (S := (22, [(0, gx_r 383), (1, .inl 0), (2, .inl 1), (3, .inl to)], [.inl 14, gx_r 399], t121, n, 0)) rfl (fun _ => rfl) rfl ?_
  refine ex_go (S := (23, [(0, gx_r 383), (1, .inl 0), (2, .inl 1), (3, .inl to)], [.inl to, .inl 14, gx_r 399], t121, n, 0)) rfl (fun _ => rfl) rfl ?_
  refine gx_ap rfl (fun _ => rfl) g121 rfl rfl rfl (show 14 < 1035 from by omega) rfl (ai_in_h (by first | decide | omega) (by first | decide | omega) (by first | decide | omega)) rfl (fun t122 g122 k122 e122 => ?_)
  have k23 : ai_hv t122 399 12 = some (.inl 1) := (e122 399 12 (by first | decide | omega)).trans k121
  refine ex_go (S := (25, [(0, gx_r 383), (1, .inl 0), (2, .inl 1), (3, .inl to)], [gx_r 383], t122, n, 0)) rfl (fun _ => rfl) rfl ?_
  refine gx_ref (c := 399) rfl g122 rfl rfl rfl rfl ?_
  refine ex_go (S := (29, [(0, gx_r 383), (1, .inl 0), (2, .inl 1), (3, .inl to)], [.inl 0, gx_r 399], t122, n, 0)) rfl (fun _ => rfl) rfl ?_
  refine ex_go (S := (31, [(0, gx_r 383), (1, .inl 0), (2, .inl 1), (3, .inl to)], [.inl 15, .inl 0, gx_r 399], t122, n, 0)) rfl (fun _ => rfl) rfl ?_
  refine ex_go (S := (32, [(0, gx_r 383), (1, .inl 0), (2, .inl 1), (3, .inl to)], [.inl 15, gx_r 399], t122, n, 0)) rfl (fun _ => rfl) rfl ?_
  refine ex_go (S := (33, [(0, gx_r 383), (1, .inl 0), (2, .inl 1), (3, .inl to)], [.inl 1, .inl 15, gx_r 399], t122, n, 0)) rfl (fun _ => rfl) rfl ?_
  refine ex_go (S := (34, [(0, gx_r 383), (1, .inl 0), (2, .inl 1), (3, .inl to)], [.inl 16, gx_r 399], t122, n, 0)) rfl (fun _ => rfl) rfl ?_
  refine ex_go (S := (35, [(0, gx_r 383), (1, .inl 0), (2, .inl 1), (3, .inl to)], [.inl 1, .inl 16, gx_r 399], t122, n, 0)) rfl (fun _ => rfl) rfl ?_
  refine gx_ap rfl (fun _ => rfl) g122 rfl rfl rfl (show 16 < 1035 from by omega) rfl (ai_in_h (by first | decide | omega) (by first | decide | omega) (by first | decide | omega)) rfl (fun t124 g124 k124 e124 => ?_)
  have k25 : ai_hv t124 399 12 = some (.inl 1) := (e124 399 12 (by first | decide | omega)).trans k23
  have k26 : ai_hv t124 399 14 = some (.inl to) := (e124 399 14 (by first | decide | omega)).trans k122
  refine ex_ret (r := (none, t124, n, 0)) rfl (fun _ => rfl) ?_
  refine ⟨_, rfl, t124, rfl, g124, (fun c i h => (e124 c i (by first | decide | omega)).trans ((e122 c i (by first | decide | omega)).trans (e121 c i (by first | decide | omega)))), fun j hj => ?_⟩
  rcases (show j = 12 ∨ j = 14 ∨ j = 16 ∨ (j ≠ 12 ∧ j ≠ 14 ∧ j ≠ 16) by omega) with rfl | rfl | rfl | h9
  · exact k25
  · exact k26
  · exact k124
  · have e9 : sgH σ 1 to j = σ j := by
      show (if j = 12 then 1 else if j = 14 then to else if j = 16 then 1 else σ j) = σ j
      rw [if_neg (by first | decide | omega), if_neg (by first | decide | omega), if_neg (by first | decide | omega)]
    rw [e9]
    exact ((e124 399 _ (by first | decide | omega)).trans ((e122 399 _ (by first | decide | omega)).trans (e121 399 _ (by first | decide | omega)))).trans (hσ j hj)
theorem sr_lends0_0 (d n : Nat) {t0 : en_H} {w : Nat → Nat → Nat} {L : List Nat} {σ : Nat → Nat} {v : Nat} (g0 : ai_HG ah_G t0) (hb : sbd σ) (hsum : σ 7 + σ 8 ≤ 19998) (hσ : ∀ j, j < 17 → ai_hv t0 399 (0 + j) = some (.inl (σ j))) (hv : v ≤ 999) : ∃ r, en_u (d + 1) 120 [gx_r 383, .inl 0, .inl 0, .inl v] t0 n = some r ∧ ∃ t', r = (some (.inl (lnv σ 0 v)), t', n, 0) ∧ ai_HG ah_G t' ∧ (∀ c i, ¬ (c = 399 ∧ 0 ≤ i ∧ i < 17) → ai_hv t' c i = ai_hv t0 c i) ∧ (∀ j, j < 17 → ai_hv t' 399 (0 + j) = some (.inl (sgL σ 0 v j))) := by
  obtain ⟨hb1, ⟨hb7, hb8⟩, ⟨hb11, hb12⟩, ⟨hb13, hb14⟩, ⟨hb15, hb16⟩, hb0, hb9, hb10⟩ := hb
  have hlv : lnv σ 0 v = min v (σ 7) := rfl
  refine en_u_ex rfl ?_
  show en_ex _ _ _ _ (0, [(0, gx_r 383), (1, .inl 0), (2, .inl 0), (3, .inl v)], [], t0, n, 0) _
  refine ex_go (S := (1, [(0, gx_r 383), (1, .inl 0), (2, .inl 0), (3, .inl v)], [.inl v], t0, n, 0)) rfl (fun _ => rfl) rfl ?_
  refine ex_go (S := (2, [(0, gx_r 383), (1, .inl 0), (2, .inl 0), (3, .inl v)], [gx_r 383, .inl v], t0, n, 0)) rfl (fun _ => rfl) rfl ?_
  refine gx_ref (c := 399) rfl g0 rfl rfl rfl rfl ?_
  refine ex_go (S := (6, [(0, gx_r 383), (1, .inl 0), (2, .inl 0), (3, .inl v)], [.inl 0, gx_r 399, .inl v], t0, n, 0)) rfl (fun _ => rfl) rfl ?_
  refine ex_go (S := (8, [(0, gx_r 383), (1, .inl 0), (2, .inl 0), (3, .inl v)], [.inl 7, .inl 0, gx_r 399, .inl v], t0, n, 0)) rfl (fun _ => rfl) rfl ?_
  refine ex_go (S := (9, [(0, gx_r 383), (1, .inl 0), (2, .inl 0), (3, .inl v)], [.inl 7, gx_r 399, .inl v], t0, n, 0)) rfl (fun _ => rfl) rfl ?_
  refine ex_go (S := (10, [(0, gx_r 383), (1, .inl 0), (2, .inl 0), (3, .inl v)], [.inl 0, .inl 7, gx_r 399, .inl v], t0, n, 0)) rfl (fun _ => rfl) rfl ?_
  refine ex_go (S := (11, [(0, gx_r 383), (1, .inl 0), (2, .inl 0), (3, .inl v)], [.inl 7, gx_r 399, .inl v], t0, n, 0)) rfl (fun _ => rfl) rfl ?_
  have k21 : ai_hv t0 399 7 = some (.inl (σ 7)) := hσ 7 (by decide)
  refine gx_ag (v := .inl (σ 7)) (cb := fun c => Nat.beq c 0) rfl (fun _ => rfl) g0 rfl rfl k21 (by first | decide | omega) rfl ?_
  by_cases hc22 : v ≤ σ 7
  · refine gx_2t (c := .le) rfl (by first | decide | omega) (by first | decide | omega) hc22 rfl ?_
    refine ex_go (S := (30, [(0, gx_r 383), (1, .inl 0), (2, .inl 0), (3, .inl v)], [.inl v], t0, n, 0)) rfl (fun _ => rfl) rfl ?_
    refine ex_go (S := (32, [(4, .inl v), (0, gx_r 383), (1, .inl 0), (2, .inl 0), (3, .inl v)], [], t0, n, 0)) rfl (fun _ => rfl) rfl ?_
    refine ex_go (S := (33, [(4, .inl v), (0, gx_r 383), (1, .inl 0), (2, .inl 0), (3, .inl v)], [gx_r 383], t0, n, 0)) rfl (fun _ => rfl) rfl ?_
    refine gx_ref (c := 399) rfl g0 rfl rfl rfl rfl ?_
    refine ex_go (S := (37, [(4, .inl v), (0, gx_r 383), (1, .inl 0), (2, .inl 0), (3, .inl v)], [.inl 0, gx_r 399], t0, n, 0)) rfl (fun _ => rfl) rfl ?_
    refine ex_go (S := (39, [(4, .inl v), (0, gx_r 383), (1, .inl 0), (2, .inl 0), (3, .inl v)], [.inl 7, .inl 0, gx_r 399], t0, n, 0)) rfl (fun _ => rfl) rfl ?_
    refine ex_go (S := (40, [(4, .inl v), (0, gx_r 383), (1, .inl 0), (2, .inl 0), (3, .inl v)], [.inl 7, gx_r 399], t0, n, 0)) rfl (fun _ => rfl) rfl ?_
    refine ex_go (S := (41, [(4, .inl v), (0, gx_r 383), (1, .inl 0), (2, .inl 0), (3, .inl v)], [.inl 0, .inl 7, gx_r 399], t0, n, 0)) rfl (fun _ => rfl) rfl ?_
    refine ex_go (S := (42, [(4, .inl v), (0, gx_r 383), (1, .inl 0), (2, .inl 0), (3, .inl v)], [.inl 7, gx_r 399], t0, n, 0)) rfl (fun _ => rfl) rfl ?_
    refine ex_go (S := (43, [(4, .inl v), (0, gx_r 383), (1, .inl 0), (2, .inl 0), (3, .inl v)], [.inl 7, gx_r 399, .inl 7, gx_r 399], t0, n, 0)) rfl (fun _ => rfl) rfl ?_
    refine gx_ag (v := .inl (σ 7)) (cb := fun c => Nat.beq c 0) rfl (fun _ => rfl) g0 rfl rfl k21 (by first | decide | omega) rfl ?_
    refine ex_go (S := (46, [(4, .inl v), (0, gx_r 383), (1, .inl 0), (2, .inl 0), (3, .inl v)], [.inl v, .inl (σ 7), .inl 7, gx_r 399], t0, n, 0)) rfl (fun _ => rfl) rfl ?_
    refine gx_isub rfl (by first | decide | omega) (by first | decide | omega) rfl ?_
    refine gx_ap rfl (fun _ => rfl) g0 rfl rfl rfl (show 7 < 1035 from by omega) rfl (ai_in_h (by first | decide | omega) (by first | decide | omega) (by first | decide | omega)) rfl (fun t123 g123 k123 e123 => ?_)
    refine ex_go (S := (49, [(4, .inl v), (0, gx_r 383), (1, .inl 0), (2, .inl 0), (3, .inl v)], [gx_r 383], t123, n, 0)) rfl (fun _ => rfl) rfl ?_
    refine gx_ref (c := 399) rfl g123 rfl rfl rfl rfl ?_
    refine ex_go (S := (53, [(4, .inl v), (0, gx_r 383), (1, .inl 0), (2, .inl 0), (3, .inl v)], [.inl 0, gx_r 399], t123, n, 0)) rfl (fun _ => rfl) rfl ?_
    refine ex_go (S := (55, [(4, .inl v), (0, gx_r 383), (1, .inl 0), (2, .inl 0), (3, .inl v)], [.inl 7, .inl 0, gx_r 399], t123, n, 0)) rfl (fun _ => rfl) rfl ?_
    refine ex_go (S := (56, [(4, .inl v), (0, gx_r 383), (1, .inl 0), (2, .inl 0), (3, .inl v)], [.inl 7, gx_r 399], t123, n, 0)) rfl (fun _ => rfl) rfl ?_
    refine ex_go (S := (57, [(4, .inl v), (0, gx_r 383), (1, .inl 0), (2, .inl 0), (3, .inl v)], [.inl 1, .inl 7, gx_r 399], t123, n, 0)) rfl (fun _ => rfl) rfl ?_
    refine ex_go (S := (58, [(4, .inl v), (0, gx_r 383), (1, .inl 0), (2, .inl 0), (3, .inl v)], [.inl 8, gx_r 399], t123, n, 0)) rfl (fun _ => rfl) rfl ?_
    refine ex_go (S := (59, [(4, .inl v), (0, gx_r 383), (1, .inl 0), (2, .inl 0), (3, .inl v)], [.inl 0, .inl 8, gx_r 399], t123, n, 0)) rfl (fun _ => rfl) rfl ?_
    refine ex_go (S := (60, [(4, .inl v), (0, gx_r 383), (1, .inl 0), (2, .inl 0), (3, .inl v)], [.inl 8, gx_r 399], t123, n, 0)) rfl (fun _ => rfl) rfl ?_
    refine ex_go (S := (61, [(4, .inl v), (0, gx_r 383), (1, .inl 0), (2, .inl 0), (3, .inl v)], [.inl 8, gx_r 399, .inl 8, gx_r 399], t123, n, 0)) rfl (fun _ => rfl) rfl ?_
    have k24 : ai_hv t123 399 8 = some (.inl (σ 8)) := (e123 399 8 (by first | decide | omega)).trans (hσ 8 (by decide))
    refine gx_ag (v := .inl (σ 8)) (cb := fun c => Nat.beq c 0) rfl (fun _ => rfl) g123 rfl rfl k24 (by first | decide | omega) rfl ?_
    refine ex_go (S := (64, [(4, .inl v), (0, gx_r 383), (1, .inl 0), (2, .inl 0), (3, .inl v)], [.inl v, .inl (σ 8), .inl 8, gx_r 399], t123, n, 0)) rfl (fun _ => rfl) rfl ?_
    refine ex_iadd rfl (by first | decide | omega) rfl ?_
    refine gx_ap rfl (fun _ => rfl) g123 rfl rfl rfl (show 8 < 1035 from by omega) rfl (ai_in_h (by first | decide | omega) (by first | decide | omega) (by first | decide | omega)) rfl (fun t125 g125 k125 e125 => ?_)
    have k26 : ai_hv t125 399 7 = some (.inl ((σ 7) - v)) := (e125 399 7 (by first | decide | omega)).trans k123
    refine ex_go (S := (67, [(4, .inl v), (0, gx_r 383), (1, .inl 0), (2, .inl 0), (3, .inl v)], [gx_r 383], t125, n, 0)) rfl (fun _ => rfl) rfl ?_
    refine gx_ref (c := 399) rfl g125 rfl rfl rfl rfl ?_
    refine ex_go (S := (71, [(4, .inl v), (0, gx_r 383), (1, .inl 0), (2, .inl 0), (3, .inl v)], [.inl 0, gx_r 399], t125, n, 0)) rfl (fun _ => rfl) rfl ?_
    refine ex_go (S := (73, [(4, .inl v), (0, gx_r 383), (1, .inl 0), (2, .inl 0), (3, .inl v)], [.inl 9, .inl 0, gx_r 399], t125, n, 0)) rfl (fun _ => rfl) rfl ?_
    refine ex_go (S := (74, [(4, .inl v), (0, gx_r 383), (1, .inl 0), (2, .inl 0), (3, .inl v)], [.inl 9, gx_r 399], t125, n, 0)) rfl (fun _ => rfl) rfl ?_
    refine ex_go (S := (75, [(4, .inl v), (0, gx_r 383), (1, .inl 0), (2, .inl 0), (3, .inl v)], [.inl 0, .inl 9, gx_r 399], t125, n, 0)) rfl (fun _ => rfl) rfl ?_
    refine ex_go (S := (76, [(4, .inl v), (0, gx_r 383), (1, .inl 0), (2, .inl 0), (3, .inl v)], [.inl 9, gx_r 399], t125, n, 0)) rfl (fun _ => rfl) rfl ?_
    refine ex_go (S := (77, [(4, .inl v), (0, gx_r 383), (1, .inl 0), (2, .inl 0), (3, .inl v)], [.inl 9, gx_r 399, .inl 9, gx_r 399], t125, n, 0)) rfl (fun _ => rfl) rfl ?_
    have k27 : ai_hv t125 399 9 = some (.inl (σ 9)) := (e125 399 9 (by first | decide | omega)).trans ((e123 399 9 (by first | decide | omega)).trans (hσ 9 (by decide)))
    refine gx_ag (v := .inl (σ 9)) (cb := fun c => Nat.beq c 0) rfl (fun _ => rfl) g125 rfl rfl k27 (by first | decide | omega) rfl ?_
    refine ex_go (S := (80, [(4, .inl v), (0, gx_r 383), (1, .inl 0), (2, .inl 0), (3, .inl v)], [.inl v, .inl (σ 9), .inl 9, gx_r 399], t125, n, 0)) rfl (fun _ => rfl) rfl ?_
    have hw28 : en_wrap ((σ 9) + v) < 4294967296 := wrap_lt
    refine gs_iaddx rfl rfl ?_
    refine gx_ap rfl (fun _ => rfl) g125 rfl rfl rfl (show 9 < 1035 from by omega) rfl (gx_full (by first | decide | omega)) rfl (fun t129 g129 k129 e129 => ?_)
    have k30 : ai_hv t129 399 7 = some (.inl ((σ 7) - v)) := (e129 399 7 (by first | decide | omega)).trans k26
    have k31 : ai_hv t129 399 8 = some (.inl ((σ 8) + v)) := (e129 399 8 (by first | decide | omega)).trans k125
    refine ex_go (S := (83, [(4, .inl v), (0, gx_r 383), (1, .inl 0), (2, .inl 0), (3, .inl v)], [gx_r 383], t129, n, 0)) rfl (fun _ => rfl) rfl ?_
    refine gx_ref (c := 399) rfl g129 rfl rfl rfl rfl ?_
    refine ex_go (S := (87, [(4, .inl v), (0, gx_r 383), (1, .inl 0), (2, .inl 0), (3, .inl v)], [.inl 0, gx_r 399], t129, n, 0)) rfl (fun _ => rfl) rfl ?_
    refine ex_go (S := (89, [(4, .inl v), (0, gx_r 383), (1, .inl 0), (2, .inl 0), (3, .inl v)], [.inl 9, .inl 0, gx_r 399], t129, n, 0)) rfl (fun _ => rfl) rfl ?_
    refine ex_go (S := (90, [(4, .inl v), (0, gx_r 383), (1, .inl 0), (2, .inl 0), (3, .inl v)], [.inl 9, gx_r 399], t129, n, 0)) rfl (fun _ => rfl) rfl ?_
    refine ex_go (S := (91, [(4, .inl v), (0, gx_r 383), (1, .inl 0), (2, .inl 0), (3, .inl v)], [.inl 1, .inl 9, gx_r 399], t129, n, 0)) rfl (fun _ => rfl) rfl ?_
    refine ex_go (S := (92, [(4, .inl v), (0, gx_r 383), (1, .inl 0), (2, .inl 0), (3, .inl v)], [.inl 10, gx_r 399], t129, n, 0)) rfl (fun _ => rfl) rfl ?_
    refine ex_go (S := (93, [(4, .inl v), (0, gx_r 383), (1, .inl 0), (2, .inl 0), (3, .inl v)], [.inl 0, .inl 10, gx_r 399], t129, n, 0)) rfl (fun _ => rfl) rfl ?_
    refine ex_go (S := (94, [(4, .inl v), (0, gx_r 383), (1, .inl 0), (2, .inl 0), (3, .inl v)], [.inl 10, gx_r 399], t129, n, 0)) rfl (fun _ => rfl) rfl ?_
    refine ex_go (S := (95, [(4, .inl v), (0, gx_r 383), (1, .inl 0), (2, .inl 0), (3, .inl v)], [.inl 10, gx_r 399, .inl 10, gx_r 399], t129, n, 0)) rfl (fun _ => rfl) rfl ?_
    have k32 : ai_hv t129 399 10 = some (.inl (σ 10)) := (e129 399 10 (by first | decide | omega)).trans ((e125 399 10 (by first | decide | omega)).trans ((e123 399 10 (by first | decide | omega)).trans (hσ 10 (by decide))))
    refine gx_ag (v := .inl (σ 10)) (cb := fun c => Nat.beq c 0) rfl (fun _ => rfl) g129 rfl rfl k32 (by first | decide | omega) rfl ?_
    refine ex_go (S := (98, [(4, .inl v), (0, gx_r 383), (1, .inl 0), (2, .inl 0), (3, .inl v)], [.inl v, .inl (σ 10), .inl 10, gx_r 399], t129, n, 0)) rfl (fun _ => rfl) rfl ?_
    have hw33 : isb (σ 10) v < 4294967296 := isb_lt
    refine gx_isbx rfl rfl ?_
    refine gx_ap rfl (fun _ => rfl) g129 rfl rfl rfl (show 10 < 1035 from by omega) rfl (gx_full (by first | decide | omega)) rfl (fun t134 g134 k134 e134 => ?_)
    have k35 : ai_hv t134 399 7 = some (.inl ((σ 7) - v)) := (e134 399 7 (by first | decide | omega)).trans k30
    have k36 : ai_hv t134 399 8 = some (.inl ((σ 8) + v)) := (e134 399 8 (by first | decide | omega)).trans k31
    have k37 : ai_hv t134 399 9 = some (.inl (en_wrap ((σ 9) + v))) := (e134 399 9 (by first | decide | omega)).trans k129
    refine ex_go (S := (102, [(4, .inl v), (0, gx_r 383), (1, .inl 0), (2, .inl 0), (3, .inl v)], [.inl v], t134, n, 0)) rfl (fun _ => rfl) rfl ?_
    refine ex_ret (r := (some (.inl v), t134, n, 0)) rfl (fun _ => rfl) ?_
    have hl9 : lnv σ 0 v = v := by omega
    refine ⟨_, rfl, t134, by rw [hl9], g134, (fun c i h => (e134 c i (by first | decide | omega)).trans ((e129 c i (by first | decide | omega)).trans ((e125 c i (by first | decide | omega)).trans (e123 c i (by first | decide | omega))))), fun j hj => ?_⟩
    rcases (show j = 7 ∨ j = 8 ∨ j = 9 ∨ j = 10 ∨ (j ≠ 7 ∧ j ≠ 8 ∧ j ≠ 9 ∧ j ≠ 10) by omega) with rfl | rfl | rfl | rfl | h9
    · show (_ : Option en_V) = some (.inl (σ 7 - lnv σ 0 v))
      rw [hl9]
      exact k35
    · show (_ : Option en_V) = some (.inl (σ 8 + lnv σ 0 v))
      rw [hl9]
      exact k36
    · show (_ : Option en_V) = some (.inl (en_wrap (σ 9 + lnv σ 0 v)))
      rw [hl9]
      exact k37
    · show (_ : Option en_V) = some (.inl (isb (σ 10) (lnv σ 0 v)))
      rw [hl9]
      exact k134
    · have e9 : sgL σ 0 v j = σ j := by
        show (if j = 7 then σ j - lnv σ 0 v else if j = 8 then σ j + lnv σ 0 v else if j = 9 then en_wrap (σ j + lnv σ 0 v) else if j = 10 then isb (σ j) (lnv σ 0 v) else σ j) = σ j
        rw [if_neg (by first | decide | omega), if_neg (by first | decide | omega), if_neg (by first | decide | omega), if_neg (by first | decide | omega)]
      rw [e9]
      exact ((e134 399 _ (by first | decide | omega)).trans ((e129 399 _ (by first | decide | omega)).trans ((e125 399 _ (by first | decide | omega)).trans (e123 399 _ (by first | decide | omega))))).trans (hσ j hj)
  · refine gx_2f (c := .le) rfl (by first | decide | omega) (by first | decide | omega) hc22 rfl ?_
    refine ex_go (S := (16, [(0, gx_r 383), (1, .inl 0), (2, .inl 0), (3, .inl v)], [gx_r 383], t0, n, 0)) rfl (fun _ => rfl) rfl ?_
    refine gx_ref (c := 399) rfl g0 rfl rfl rfl rfl ?_
    refine ex_go (S := (20, [(0, gx_r 383), (1, .inl 0), (2, .inl 0), (3, .inl v)], [.inl 0, gx_r 399], t0, n, 0)) rfl (fun _ => rfl) rfl ?_
    refine ex_go (S := (22, [(0, gx_r 383), (1, .inl 0), (2, .inl 0), (3, .inl v)], [.inl 7, .inl 0, gx_r 399], t0, n, 0)) rfl (fun _ => rfl) rfl ?_
    refine ex_go (S := (23, [(0, gx_r 383), (1, .inl 0), (2, .inl 0), (3, .inl v)], [.inl 7, gx_r 399], t0, n, 0)) rfl (fun _ => rfl) rfl ?_
    refine ex_go (S := (24, [(0, gx_r 383), (1, .inl 0), (2, .inl 0), (3, .inl v)], [.inl 0, .inl 7, gx_r 399], t0, n, 0)) rfl (fun _ => rfl) rfl ?_
    refine ex_go (S := (25, [(0, gx_r 383), (1, .inl 0), (2, .inl 0), (3, .inl v)], [.inl 7, gx_r 399], t0, n, 0)) rfl (fun _ => rfl) rfl ?_
    refine gx_ag (v := .inl (σ 7)) (cb := fun c => Nat.beq c 0) rfl (fun _ => rfl) g0 rfl rfl k21 (by first | decide | omega) rfl ?_
    refine ex_go (S := (30, [(0, gx_r 383), (1, .inl 0), (2, .inl 0), (3, .inl v)], [.inl (σ 7)], t0, n, 0)) rfl (fun _ => rfl) rfl ?_
    refine ex_go (S := (32, [(4, .inl (σ 7)), (0, gx_r 383), (1, .inl 0), (2, .inl 0), (3, .inl v)], [], t0, n, 0)) rfl (fun _ => rfl) rfl ?_
    refine ex_go (S := (33, [(4, .inl (σ 7)), (0, gx_r 383), (1, .inl 0), (2, .inl 0), (3, .inl v)], [gx_r 383], t0, n, 0)) rfl (fun _ => rfl) rfl ?_
    refine gx_ref (c := 399) rfl g0 rfl rfl rfl rfl ?_
    refine ex_go (S := (37, [(4, .inl (σ 7)), (0, gx_r 383), (1, .inl 0), (2, .inl 0), (3, .inl v)], [.inl 0, gx_r 399], t0, n, 0)) rfl (fun _ => rfl) rfl ?_
    refine ex_go (S := (39, [(4, .inl (σ 7)), (0, gx_r 383), (1, .inl 0), (2, .inl 0), (3, .inl v)], [.inl 7, .inl 0, gx_r 399], t0, n, 0)) rfl (fun _ => rfl) rfl ?_
    refine ex_go (S := (40, [(4, .inl (σ 7)), (0, gx_r 383), (1, .inl 0), (2, .inl 0), (3, .inl v)], [.inl 7, gx_r 399], t0, n, 0)) rfl (fun _ => rfl) rfl ?_
    refine ex_go (S := (41, [(4, .inl (σ 7)), (0, gx_r 383), (1, .inl 0), (2, .inl 0), (3, .inl v)], [.inl 0, .inl 7, gx_r 399], t0, n, 0)) rfl (fun _ => rfl) rfl ?_
    refine ex_go (S := (42, [(4, .inl (σ 7)), (0, gx_r 383), (1, .inl 0), (2, .inl 0), (3, .inl v)], [.inl 7, gx_r 399], t0, n, 0)) rfl (fun _ => rfl) rfl ?_
    refine ex_go (S := (43, [(4, .inl (σ 7)), (0, gx_r 383), (1, .inl 0), (2, .inl 0), (3, .inl v)], [.inl 7, gx_r 399, .inl 7, gx_r 399], t0, n, 0)) rfl (fun _ => rfl) rfl ?_
    refine gx_ag (v := .inl (σ 7)) (cb := fun c => Nat.beq c 0) rfl (fun _ => rfl) g0 rfl rfl k21 (by first | decide | omega) rfl ?_
    refine ex_go (S := (46, [(4, .inl (σ 7)), (0, gx_r 383), (1, .inl 0), (2, .inl 0), (3, .inl v)], [.inl (σ 7), .inl (σ 7), .inl 7, gx_r 399], t0, n, 0)) rfl (fun _ => rfl) rfl ?_
    refine gx_isub rfl (by first | decide | omega) (by first | decide | omega) rfl ?_
    refine gx_ap rfl (fun _ => rfl) g0 rfl rfl rfl (show 7 < 1035 from by omega) rfl (ai_in_h (by first | decide | omega) (by first | decide | omega) (by first | decide | omega)) rfl (fun t138 g138 k138 e138 => ?_)
    refine ex_go (S := (49, [(4, .inl (σ 7)), (0, gx_r 383), (1, .inl 0), (2, .inl 0), (3, .inl v)], [gx_r 383], t138, n, 0)) rfl (fun _ => rfl) rfl ?_
    refine gx_ref (c := 399) rfl g138 rfl rfl rfl rfl ?_
    refine ex_go (S := (53, [(4, .inl (σ 7)), (0, gx_r 383), (1, .inl 0), (2, .inl 0), (3, .inl v)], [.inl 0, gx_r 399], t138, n, 0)) rfl (fun _ => rfl) rfl ?_
    refine ex_go (S := (55, [(4, .inl (σ 7)), (0, gx_r 383), (1, .inl 0), (2, .inl 0), (3, .inl v)], [.inl 7, .inl 0, gx_r 399], t138, n, 0)) rfl (fun _ => rfl) rfl ?_
    refine ex_go (S := (56, [(4, .inl (σ 7)), (0, gx_r 383), (1, .inl 0), (2, .inl 0), (3, .inl v)], [.inl 7, gx_r 399], t138, n, 0)) rfl (fun _ => rfl) rfl ?_
    refine ex_go (S := (57, [(4, .inl (σ 7)), (0, gx_r 383), (1, .inl 0), (2, .inl 0), (3, .inl v)], [.inl 1, .inl 7, gx_r 399], t138, n, 0)) rfl (fun _ => rfl) rfl ?_
    refine ex_go (S := (58, [(4, .inl (σ 7)), (0, gx_r 383), (1, .inl 0), (2, .inl 0), (3, .inl v)], [.inl 8, gx_r 399], t138, n, 0)) rfl (fun _ => rfl) rfl ?_
    refine ex_go (S := (59, [(4, .inl (σ 7)), (0, gx_r 383), (1, .inl 0), (2, .inl 0), (3, .inl v)], [.inl 0, .inl 8, gx_r 399], t138, n, 0)) rfl (fun _ => rfl) rfl ?_
    refine ex_go (S := (60, [(4, .inl (σ 7)), (0, gx_r 383), (1, .inl 0), (2, .inl 0), (3, .inl v)], [.inl 8, gx_r 399], t138, n, 0)) rfl (fun _ => rfl) rfl ?_
    refine ex_go (S := (61, [(4, .inl (σ 7)), (0, gx_r 383), (1, .inl 0), (2, .inl 0), (3, .inl v)], [.inl 8, gx_r 399, .inl 8, gx_r 399], t138, n, 0)) rfl (fun _ => rfl) rfl ?_
    have k39 : ai_hv t138 399 8 = some (.inl (σ 8)) := (e138 399 8 (by first | decide | omega)).trans (hσ 8 (by decide))
    refine gx_ag (v := .inl (σ 8)) (cb := fun c => Nat.beq c 0) rfl (fun _ => rfl) g138 rfl rfl k39 (by first | decide | omega) rfl ?_
    refine ex_go (S := (64, [(4, .inl (σ 7)), (0, gx_r 383), (1, .inl 0), (2, .inl 0), (3, .inl v)], [.inl (σ 7), .inl (σ 8), .inl 8, gx_r 399], t138, n, 0)) rfl (fun _ => rfl) rfl ?_
    refine ex_iadd rfl (by first | decide | omega) rfl ?_
    refine gx_ap rfl (fun _ => rfl) g138 rfl rfl rfl (show 8 < 1035 from by omega) rfl (ai_in_h (by first | decide | omega) (by first | decide | omega) (by first | decide | omega)) rfl (fun t140 g140 k140 e140 => ?_)
    have k41 : ai_hv t140 399 7 = some (.inl ((σ 7) - (σ 7))) := (e140 399 7 (by first | decide | omega)).trans k138
    refine ex_go (S := (67, [(4, .inl (σ 7)), (0, gx_r 383), (1, .inl 0), (2, .inl 0), (3, .inl v)], [gx_r 383], t140, n, 0)) rfl (fun _ => rfl) rfl ?_
    refine gx_ref (c := 399) rfl g140 rfl rfl rfl rfl ?_
    refine ex_go (S := (71, [(4, .inl (σ 7)), (0, gx_r 383), (1, .inl 0), (2, .inl 0), (3, .inl v)], [.inl 0, gx_r 399], t140, n, 0)) rfl (fun _ => rfl) rfl ?_
    refine ex_go (S := (73, [(4, .inl (σ 7)), (0, gx_r 383), (1, .inl 0), (2, .inl 0), (3, .inl v)], [.inl 9, .inl 0, gx_r 399], t140, n, 0)) rfl (fun _ => rfl) rfl ?_
    refine ex_go (S := (74, [(4, .inl (σ 7)), (0, gx_r 383), (1, .inl 0), (2, .inl 0), (3, .inl v)], [.inl 9, gx_r 399], t140, n, 0)) rfl (fun _ => rfl) rfl ?_
    refine ex_go (S := (75, [(4, .inl (σ 7)), (0, gx_r 383), (1, .inl 0), (2, .inl 0), (3, .inl v)], [.inl 0, .inl 9, gx_r 399], t140, n, 0)) rfl (fun _ => rfl) rfl ?_
    refine ex_go (S := (76, [(4, .inl (σ 7)), (0, gx_r 383), (1, .inl 0), (2, .inl 0), (3, .inl v)], [.inl 9, gx_r 399], t140, n, 0)) rfl (fun _ => rfl) rfl ?_
    refine ex_go (S := (77, [(4, .inl (σ 7)), (0, gx_r 383), (1, .inl 0), (2, .inl 0), (3, .inl v)], [.inl 9, gx_r 399, .inl 9, gx_r 399], t140, n, 0)) rfl (fun _ => rfl) rfl ?_
    have k42 : ai_hv t140 399 9 = some (.inl (σ 9)) := (e140 399 9 (by first | decide | omega)).trans ((e138 399 9 (by first | decide | omega)).trans (hσ 9 (by decide)))
    refine gx_ag (v := .inl (σ 9)) (cb := fun c => Nat.beq c 0) rfl (fun _ => rfl) g140 rfl rfl k42 (by first | decide | omega) rfl ?_
    refine ex_go (S := (80, [(4, .inl (σ 7)), (0, gx_r 383), (1, .inl 0), (2, .inl 0), (3, .inl v)], [.inl (σ 7), .inl (σ 9), .inl 9, gx_r 399], t140, n, 0)) rfl (fun _ => rfl) rfl ?_
    have hw43 : en_wrap ((σ 9) + (σ 7)) < 4294967296 := wrap_lt
    refine gs_iaddx rfl rfl ?_
    refine gx_ap rfl (fun _ => rfl) g140 rfl rfl rfl (show 9 < 1035 from by omega) rfl (gx_full (by first | decide | omega)) rfl (fun t144 g144 k144 e144 => ?_)
    have k45 : ai_hv t144 399 7 = some (.inl ((σ 7) - (σ 7))) := (e144 399 7 (by first | decide | omega)).trans k41
    have k46 : ai_hv t144 399 8 = some (.inl ((σ 8) + (σ 7))) := (e144 399 8 (by first | decide | omega)).trans k140
    refine ex_go (S := (83, [(4, .inl (σ 7)), (0, gx_r 383), (1, .inl 0), (2, .inl 0), (3, .inl v)], [gx_r 383], t144, n, 0)) rfl (fun _ => rfl) rfl ?_
    refine gx_ref (c := 399) rfl g144 rfl rfl rfl rfl ?_
    refine ex_go (S := (87, [(4, .inl (σ 7)), (0, gx_r 383), (1, .inl 0), (2, .inl 0), (3, .inl v)], [.inl 0, gx_r 399], t144, n, 0)) rfl (fun _ => rfl) rfl ?_
    refine ex_go (S := (89, [(4, .inl (σ 7)), (0, gx_r 383), (1, .inl 0), (2, .inl 0), (3, .inl v)], [.inl 9, .inl 0, gx_r 399], t144, n, 0)) rfl (fun _ => rfl) rfl ?_
    refine ex_go (S := (90, [(4, .inl (σ 7)), (0, gx_r 383), (1, .inl 0), (2, .inl 0), (3, .inl v)], [.inl 9, gx_r 399], t144, n, 0)) rfl (fun _ => rfl) rfl ?_
    refine ex_go (S := (91, [(4, .inl (σ 7)), (0, gx_r 383), (1, .inl 0), (2, .inl 0), (3, .inl v)], [.inl 1, .inl 9, gx_r 399], t144, n, 0)) rfl (fun _ => rfl) rfl ?_
    refine ex_go (S := (92, [(4, .inl (σ 7)), (0, gx_r 383), (1, .inl 0), (2, .inl 0), (3, .inl v)], [.inl 10, gx_r 399], t144, n, 0)) rfl (fun _ => rfl) rfl ?_
    refine ex_go (S := (93, [(4, .inl (σ 7)), (0, gx_r 383), (1, .inl 0), (2, .inl 0), (3, .inl v)], [.inl 0, .inl 10, gx_r 399], t144, n, 0)) rfl (fun _ => rfl) rfl ?_
    refine ex_go (S := (94, [(4, .inl (σ 7)), (0, gx_r 383), (1, .inl 0), (2, .inl 0), (3, .inl v)], [.inl 10, gx_r 399], t144, n, 0)) rfl (fun _ => rfl) rfl ?_
    refine ex_go (S := (95, [(4, .inl (σ 7)), (0, gx_r 383), (1, .inl 0), (2, .inl 0), (3, .inl v)], [.inl 10, gx_r 399, .inl 10, gx_r 399], t144, n, 0)) rfl (fun _ => rfl) rfl ?_
    have k47 : ai_hv t144 399 10 = some (.inl (σ 10)) := (e144 399 10 (by first | decide | omega)).trans ((e140 399 10 (by first | decide | omega)).trans ((e138 399 10 (by first | decide | omega)).trans (hσ 10 (by decide))))
    refine gx_ag (v := .inl (σ 10)) (cb := fun c => Nat.beq c 0) rfl (fun _ => rfl) g144 rfl rfl k47 (by first | decide | omega) rfl ?_
    refine ex_go (S := (98, [(4, .inl (σ 7)), (0, gx_r 383), (1, .inl 0), (2, .inl 0), (3, .inl v)], [.inl (σ 7), .inl (σ 10), .inl 10, gx_r 399], t144, n, 0)) rfl (fun _ => rfl) rfl ?_
    have hw48 : isb (σ 10) (σ 7) < 4294967296 := isb_lt
    refine gx_isbx rfl rfl ?_
    refine gx_ap rfl (fun _ => rfl) g144 rfl rfl rfl (show 10 < 1035 from by omega) rfl (gx_full (by first | decide | omega)) rfl (fun t149 g149 k149 e149 => ?_)
    have k50 : ai_hv t149 399 7 = some (.inl ((σ 7) - (σ 7))) := (e149 399 7 (by first | decide | omega)).trans k45
    have k51 : ai_hv t149 399 8 = some (.inl ((σ 8) + (σ 7))) := (e149 399 8 (by first | decide | omega)).trans k46
    have k52 : ai_hv t149 399 9 = some (.inl (en_wrap ((σ 9) + (σ 7)))) := (e149 399 9 (by first | decide | omega)).trans k144
    refine ex_go (S := (102, [(4, .inl (σ 7)), (0, gx_r 383), (1, .inl 0), (2, .inl 0), (3, .inl v)], [.inl (σ 7)], t149, n, 0)) rfl (fun _ => rfl) rfl ?_
    refine ex_ret (r := (some (.inl (σ 7)), t149, n, 0)) rfl (fun _ => rfl) ?_
    have hl9 : lnv σ 0 v = σ 7 := by omega
    refine ⟨_, rfl, t149, by rw [hl9], g149, (fun c i h => (e149 c i (by first | decide | omega)).trans ((e144 c i (by first | decide | omega)).trans ((e140 c i (by first | decide | omega)).trans (e138 c i (by first | decide | omega))))), fun j hj => ?_⟩
    rcases (show j = 7 ∨ j = 8 ∨ j = 9 ∨ j = 10 ∨ (j ≠ 7 ∧ j ≠ 8 ∧ j ≠ 9 ∧ j ≠ 10) by omega) with rfl | rfl | rfl | rfl | h9
    · show (_ : Option en_V) = some (.inl (σ 7 - lnv σ 0 v))
      rw [hl9]
      exact k50
    · show (_ : Option en_V) = some (.inl (σ 8 + lnv σ 0 v))
      rw [hl9]
      exact k51
    · show (_ : Option en_V) = some (.inl (en_wrap (σ 9 + lnv σ 0 v)))
      rw [hl9]
      exact k52
    · show (_ : Option en_V) = some (.inl (isb (σ 10) (lnv σ 0 v)))
      rw [hl9]
      exact k149
    · have e9 : sgL σ 0 v j = σ j := by
        show (if j = 7 then σ j - lnv σ 0 v else if j = 8 then σ j + lnv σ 0 v else if j = 9 then en_wrap (σ j + lnv σ 0 v) else if j = 10 then isb (σ j) (lnv σ 0 v) else σ j) = σ j
        rw [if_neg (by first | decide | omega), if_neg (by first | decide | omega), if_neg (by first | decide | omega), if_neg (by first | decide | omega)]
      rw [e9]
      exact ((e149 399 _ (by first | decide | omega)).trans ((e144 399 _ (by first | decide | omega)).trans ((e140 399 _ (by first | decide | omega)).trans (e138 399 _ (by first | decide | omega))))).trans (hσ j hj)
theorem sr_lends0_1 (d n : Nat) {t0 : en_H} {w : Nat → Nat → Nat} {L : List Nat} {σ : Nat → Nat} {v : Nat} (g0 : ai_HG ah_G t0) (hb : sbd σ) (hsum : σ 7 + σ 8 ≤ 19998) (hσ : ∀ j, j < 17 → ai_hv t0 399 (0 + j) = some (.inl (σ j))) (hv : v ≤ 999) : ∃ r, en_u (d + 1) 120 [gx_r 383, .inl 0, .inl 1, .inl v] t0 n = some r ∧ ∃ t', r = (some (.inl (lnv σ 1 v)), t', n, 0) ∧ ai_HG ah_G t' ∧ (∀ c i, ¬ (c = 399 ∧ 0 ≤ i ∧ i < 17) → ai_hv t' c i = ai_hv t0 c i) ∧ (∀ j, j < 17 → ai_hv t' 399 (0 + j) = some (.inl (sgL σ 1 v j))) := by
  obtain ⟨hb1, ⟨hb7, hb8⟩, ⟨hb11, hb12⟩, ⟨hb13, hb14⟩, ⟨hb15, hb16⟩, hb0, hb9, hb10⟩ := hb
  have hlv : lnv σ 1 v = min v (σ 8) := rfl
  refine en_u_ex rfl ?_
  show en_ex _ _ _ _ (0, [(0, gx_r 383), (1, .inl 0), (2, .inl 1), (3, .inl v)], [], t0, n, 0) _
  refine ex_go (S := (1, [(0, gx_r 383), (1, .inl 0), (2, .inl 1), (3, .inl v)], [.inl v], t0, n, 0)) rfl (fun _ => rfl) rfl ?_
  refine ex_go (S := (2, [(0, gx_r 383), (1, .inl 0), (2, .inl 1), (3, .inl v)], [gx_r 383, .inl v], t0, n, 0)) rfl (fun _ => rfl) rfl ?_
  refine gx_ref (c := 399) rfl g0 rfl rfl rfl rfl ?_
  refine ex_go (S := (6, [(0, gx_r 383), (1, .inl 0), (2, .inl 1), (3, .inl v)], [.inl 0, gx_r 399, .inl v], t0, n, 0)) rfl (fun _ => rfl) rfl ?_
  refine ex_go (S := (8, [(0, gx_r 383), (1, .inl 0), (2, .inl 1), (3, .inl v)], [.inl 7, .inl 0, gx_r 399, .inl v], t0, n, 0)) rfl (fun _ => rfl) rfl ?_
  refine ex_go (S := (9, [(0, gx_r 383), (1, .inl 0), (2, .inl 1), (3, .inl v)], [.inl 7, gx_r 399, .inl v], t0, n, 0)) rfl (fun _ => rfl) rfl ?_
  refine ex_go (S := (10, [(0, gx_r 383), (1, .inl 0), (2, .inl 1), (3, .inl v)], [.inl 1, .inl 7, gx_r 399, .inl v], t0, n, 0)) rfl (fun _ => rfl) rfl ?_
  refine ex_go (S := (11, [(0, gx_r 383), (1, .inl 0), (2, .inl 1), (3, .inl v)], [.inl 8, gx_r 399, .inl v], t0, n, 0)) rfl (fun _ => rfl) rfl ?_
  have k21 : ai_hv t0 399 8 = some (.inl (σ 8)) := hσ 8 (by decide)
  refine gx_ag (v := .inl (σ 8)) (cb := fun c => Nat.beq c 0) rfl (fun _ => rfl) g0 rfl rfl k21 (by first | decide | omega) rfl ?_
  by_cases hc22 : v ≤ σ 8
  · refine gx_2t (c := .le) rfl (by first | decide | omega) (by first | decide | omega) hc22 rfl ?_
    refine ex_go (S := (30, [(0, gx_r 383), (1, .inl 0), (2, .inl 1), (3, .inl v)], [.inl v], t0, n, 0)) rfl (fun _ => rfl) rfl ?_
    refine ex_go (S := (32, [(4, .inl v), (0, gx_r 383), (1, .inl 0), (2, .inl 1), (3, .inl v)], [], t0, n, 0)) rfl (fun _ => rfl) rfl ?_
    refine ex_go (S := (33, [(4, .inl v), (0, gx_r 383), (1, .inl 0), (2, .inl 1), (3, .inl v)], [gx_r 383], t0, n, 0)) rfl (fun _ => rfl) rfl ?_
    refine gx_ref (c := 399) rfl g0 rfl rfl rfl rfl ?_
    refine ex_go (S := (37, [(4, .inl v), (0, gx_r 383), (1, .inl 0), (2, .inl 1), (3, .inl v)], [.inl 0, gx_r 399], t0, n, 0)) rfl (fun _ => rfl) rfl ?_
    refine ex_go (S := (39, [(4, .inl v), (0, gx_r 383), (1, .inl 0), (2, .inl 1), (3, .inl v)], [.inl 7, .inl 0, gx_r 399], t0, n, 0)) rfl (fun _ => rfl) rfl ?_
    refine ex_go (S := (40, [(4, .inl v), (0, gx_r 383), (1, .inl 0), (2, .inl 1), (3, .inl v)], [.inl 7, gx_r 399], t0, n, 0)) rfl (fun _ => rfl) rfl ?_
    refine ex_go (S := (41, [(4, .inl v), (0, gx_r 383), (1, .inl 0), (2, .inl 1), (3, .inl v)], [.inl 1, .inl 7, gx_r 399], t0, n, 0)) rfl (fun _ => rfl) rfl ?_
    refine ex_go (S := (42, [(4, .inl v), (0, gx_r 383), (1, .inl 0), (2, .inl 1), (3, .inl v)], [.inl 8, gx_r 399], t0, n, 0)) rfl (fun _ => rfl) rfl ?_
    refine ex_go (S := (43, [(4, .inl v), (0, gx_r 383), (1, .inl 0), (2, .inl 1), (3, .inl v)], [.inl 8, gx_r 399, .inl 8, gx_r 399], t0, n, 0)) rfl (fun _ => rfl) rfl ?_
    refine gx_ag (v := .inl (σ 8)) (cb := fun c => Nat.beq c 0) rfl (fun _ => rfl) g0 rfl rfl k21 (by first | decide | omega) rfl ?_
    refine ex_go (S := (46, [(4, .inl v), (0, gx_r 383), (1, .inl 0), (2, .inl 1), (3, .inl v)], [.inl v, .inl (σ 8), .inl 8, gx_r 399], t0, n, 0)) rfl (fun _ => rfl) rfl ?_
    refine gx_isub rfl (by first | decide | omega) (by first | decide | omega) rfl ?_
    refine gx_ap rfl (fun _ => rfl) g0 rfl rfl rfl (show 8 < 1035 from by omega) rfl (ai_in_h (by first | decide | omega) (by first | decide | omega) (by first | decide | omega)) rfl (fun t123 g123 k123 e123 => ?_)
    refine ex_go (S := (49, [(4, .inl v), (0, gx_r 383), (1, .inl 0), (2, .inl 1), (3, .inl v)], [gx_r 383], t123, n, 0)) rfl (fun _ => rfl) rfl ?_
    refine gx_ref (c := 399) rfl g123 rfl rfl rfl rfl ?_
    refine ex_go (S := (53, [(4, .inl v), (0, gx_r 383), (1, .inl 0), (2, .inl 1), (3, .inl v)], [.inl 0, gx_r 399], t123, n, 0)) rfl (fun _ => rfl) rfl ?_
    refine ex_go (S := (55, [(4, .inl v), (0, gx_r 383), (1, .inl 0), (2, .inl 1), (3, .inl v)], [.inl 7, .inl 0, gx_r 399], t123, n, 0)) rfl (fun _ => rfl) rfl ?_
    refine ex_go (S := (56, [(4, .inl v), (0, gx_r 383), (1, .inl 0), (2, .inl 1), (3, .inl v)], [.inl 7, gx_r 399], t123, n, 0)) rfl (fun _ => rfl) rfl ?_
    refine ex_go (S := (57, [(4, .inl v), (0, gx_r 383), (1, .inl 0), (2, .inl 1), (3, .inl v)], [.inl 1, .inl 7, gx_r 399], t123, n, 0)) rfl (fun _ => rfl) rfl ?_
    refine ex_go (S := (58, [(4, .inl v), (0, gx_r 383), (1, .inl 0), (2, .inl 1), (3, .inl v)], [.inl 8, gx_r 399], t123, n, 0)) rfl (fun _ => rfl) rfl ?_
    refine ex_go (S := (59, [(4, .inl v), (0, gx_r 383), (1, .inl 0), (2, .inl 1), (3, .inl v)], [.inl 1, .inl 8, gx_r 399], t123, n, 0)) rfl (fun _ => rfl) rfl ?_
    refine ex_go (S := (60, [(4, .inl v), (0, gx_r 383), (1, .inl 0), (2, .inl 1), (3, .inl v)], [.inl 7, gx_r 399], t123, n, 0)) rfl (fun _ => rfl) rfl ?_
    refine ex_go (S := (61, [(4, .inl v), (0, gx_r 383), (1, .inl 0), (2, .inl 1), (3, .inl v)], [.inl 7, gx_r 399, .inl 7, gx_r 399], t123, n, 0)) rfl (fun _ => rfl) rfl ?_
    have k24 : ai_hv t123 399 7 = some (.inl (σ 7)) := (e123 399 7 (by first | decide | omega)).trans (hσ 7 (by decide))
    refine gx_ag (v := .inl (σ 7)) (cb := fun c => Nat.beq c 0) rfl (fun _ => rfl) g123 rfl rfl k24 (by first | decide | omega) rfl ?_
    refine ex_go (S := (64, [(4, .inl v), (0, gx_r 383), (1, .inl 0), (2, .inl 1), (3, .inl v)], [.inl v, .inl (σ 7), .inl 7, gx_r 399], t123, n, 0)) rfl (fun _ => rfl) rfl ?_
    refine ex_iadd rfl (by first | decide | omega) rfl ?_
    refine gx_ap rfl (fun _ => rfl) g123 rfl rfl rfl (show 7 < 1035 from by omega) rfl (ai_in_h (by first | decide | omega) (by first | decide | omega) (by first | decide | omega)) rfl (fun t125 g125 k125 e125 => ?_)
    have k26 : ai_hv t125 399 8 = some (.inl ((σ 8) - v)) := (e125 399 8 (by first | decide | omega)).trans k123
    refine ex_go (S := (67, [(4, .inl v), (0, gx_r 383), (1, .inl 0), (2, .inl 1), (3, .inl v)], [gx_r 383], t125, n, 0)) rfl (fun _ => rfl) rfl ?_
    refine gx_ref (c := 399) rfl g125 rfl rfl rfl rfl ?_
    refine ex_go (S := (71, [(4, .inl v), (0, gx_r 383), (1, .inl 0), (2, .inl 1), (3, .inl v)], [.inl 0, gx_r 399], t125, n, 0)) rfl (fun _ => rfl) rfl ?_
    refine ex_go (S := (73, [(4, .inl v), (0, gx_r 383), (1, .inl 0), (2, .inl 1), (3, .inl v)], [.inl 9, .inl 0, gx_r 399], t125, n, 0)) rfl (fun _ => rfl) rfl ?_
    refine ex_go (S := (74, [(4, .inl v), (0, gx_r 383), (1, .inl 0), (2, .inl 1), (3, .inl v)], [.inl 9, gx_r 399], t125, n, 0)) rfl (fun _ => rfl) rfl ?_
    refine ex_go (S := (75, [(4, .inl v), (0, gx_r 383), (1, .inl 0), (2, .inl 1), (3, .inl v)], [.inl 1, .inl 9, gx_r 399], t125, n, 0)) rfl (fun _ => rfl) rfl ?_
    refine ex_go (S := (76, [(4, .inl v), (0, gx_r 383), (1, .inl 0), (2, .inl 1), (3, .inl v)], [.inl 10, gx_r 399], t125, n, 0)) rfl (fun _ => rfl) rfl ?_
    refine ex_go (S := (77, [(4, .inl v), (0, gx_r 383), (1, .inl 0), (2, .inl 1), (3, .inl v)], [.inl 10, gx_r 399, .inl 10, gx_r 399], t125, n, 0)) rfl (fun _ => rfl) rfl ?_
    have k27 : ai_hv t125 399 10 = some (.inl (σ 10)) := (e125 399 10 (by first | decide | omega)).trans ((e123 399 10 (by first | decide | omega)).trans (hσ 10 (by decide)))
    refine gx_ag (v := .inl (σ 10)) (cb := fun c => Nat.beq c 0) rfl (fun _ => rfl) g125 rfl rfl k27 (by first | decide | omega) rfl ?_
    refine ex_go (S := (80, [(4, .inl v), (0, gx_r 383), (1, .inl 0), (2, .inl 1), (3, .inl v)], [.inl v, .inl (σ 10), .inl 10, gx_r 399], t125, n, 0)) rfl (fun _ => rfl) rfl ?_
    have hw28 : en_wrap ((σ 10) + v) < 4294967296 := wrap_lt
    refine gs_iaddx rfl rfl ?_
    refine gx_ap rfl (fun _ => rfl) g125 rfl rfl rfl (show 10 < 1035 from by omega) rfl (gx_full (by first | decide | omega)) rfl (fun t129 g129 k129 e129 => ?_)
    have k30 : ai_hv t129 399 8 = some (.inl ((σ 8) - v)) := (e129 399 8 (by first | decide | omega)).trans k26
    have k31 : ai_hv t129 399 7 = some (.inl ((σ 7) + v)) := (e129 399 7 (by first | decide | omega)).trans k125
    refine ex_go (S := (83, [(4, .inl v), (0, gx_r 383), (1, .inl 0), (2, .inl 1), (3, .inl v)], [gx_r 383], t129, n, 0)) rfl (fun _ => rfl) rfl ?_
    refine gx_ref (c := 399) rfl g129 rfl rfl rfl rfl ?_
    refine ex_go (S := (87, [(4, .inl v), (0, gx_r 383), (1, .inl 0), (2, .inl 1), (3, .inl v)], [.inl 0, gx_r 399], t129, n, 0)) rfl (fun _ => rfl) rfl ?_
    refine ex_go (S := (89, [(4, .inl v), (0, gx_r 383), (1, .inl 0), (2, .inl 1), (3, .inl v)], [.inl 9, .inl 0, gx_r 399], t129, n, 0)) rfl (fun _ => rfl) rfl ?_
    refine ex_go (S := (90, [(4, .inl v), (0, gx_r 383), (1, .inl 0), (2, .inl 1), (3, .inl v)], [.inl 9, gx_r 399], t129, n, 0)) rfl (fun _ => rfl) rfl ?_
    refine ex_go (S := (91, [(4, .inl v), (0, gx_r 383), (1, .inl 0), (2, .inl 1), (3, .inl v)], [.inl 1, .inl 9, gx_r 399], t129, n, 0)) rfl (fun _ => rfl) rfl ?_
    refine ex_go (S := (92, [(4, .inl v), (0, gx_r 383), (1, .inl 0), (2, .inl 1), (3, .inl v)], [.inl 10, gx_r 399], t129, n, 0)) rfl (fun _ => rfl) rfl ?_
    refine ex_go (S := (93, [(4, .inl v), (0, gx_r 383), (1, .inl 0), (2, .inl 1), (3, .inl v)], [.inl 1, .inl 10, gx_r 399], t129, n, 0)) rfl (fun _ => rfl) rfl ?_
    refine ex_go (S := (94, [(4, .inl v), (0, gx_r 383), (1, .inl 0), (2, .inl 1), (3, .inl v)], [.inl 9, gx_r 399], t129, n, 0)) rfl (fun _ => rfl) rfl ?_
    refine ex_go (S := (95, [(4, .inl v), (0, gx_r 383), (1, .inl 0), (2, .inl 1), (3, .inl v)], [.inl 9, gx_r 399, .inl 9, gx_r 399], t129, n, 0)) rfl (fun _ => rfl) rfl ?_
    have k32 : ai_hv t129 399 9 = some (.inl (σ 9)) := (e129 399 9 (by first | decide | omega)).trans ((e125 399 9 (by first | decide | omega)).trans ((e123 399 9 (by first | decide | omega)).trans (hσ 9 (by decide))))
    refine gx_ag (v := .inl (σ 9)) (cb := fun c => Nat.beq c 0) rfl (fun _ => rfl) g129 rfl rfl k32 (by first | decide | omega) rfl ?_
    refine ex_go (S := (98, [(4, .inl v), (0, gx_r 383), (1, .inl 0), (2, .inl 1), (3, .inl v)], [.inl v, .inl (σ 9), .inl 9, gx_r 399], t129, n, 0)) rfl (fun _ => rfl) rfl ?_
    have hw33 : isb (σ 9) v < 4294967296 := isb_lt
    refine gx_isbx rfl rfl ?_
    refine gx_ap rfl (fun _ => rfl) g129 rfl rfl rfl (show 9 < 1035 from by omega) rfl (gx_full (by first | decide | omega)) rfl (fun t134 g134 k134 e134 => ?_)
    have k35 : ai_hv t134 399 8 = some (.inl ((σ 8) - v)) := (e134 399 8 (by first | decide | omega)).trans k30
    have k36 : ai_hv t134 399 7 = some (.inl ((σ 7) + v)) := (e134 399 7 (by first | decide | omega)).trans k31
    have k37 : ai_hv t134 399 10 = some (.inl (en_wrap ((σ 10) + v))) := (e134 399 10 (by first | decide | omega)).trans k129
    refine ex_go (S := (102, [(4, .inl v), (0, gx_r 383), (1, .inl 0), (2, .inl 1), (3, .inl v)], [.inl v], t134, n, 0)) rfl (fun _ => rfl) rfl ?_
    refine ex_ret (r := (some (.inl v), t134, n, 0)) rfl (fun _ => rfl) ?_
    have hl9 : lnv σ 1 v = v := by omega
    refine ⟨_, rfl, t134, by rw [hl9], g134, (fun c i h => (e134 c i (by first | decide | omega)).trans ((e129 c i (by first | decide | omega)).trans ((e125 c i (by first | decide | omega)).trans (e123 c i (by first | decide | omega))))), fun j hj => ?_⟩
    rcases (show j = 7 ∨ j = 8 ∨ j = 9 ∨ j = 10 ∨ (j ≠ 7 ∧ j ≠ 8 ∧ j ≠ 9 ∧ j ≠ 10) by omega) with rfl | rfl | rfl | rfl | h9
    · show (_ : Option en_V) = some (.inl (σ 7 + lnv σ 1 v))
      rw [hl9]
      exact k36
    · show (_ : Option en_V) = some (.inl (σ 8 - lnv σ 1 v))
      rw [hl9]
      exact k35
    · show (_ : Option en_V) = some (.inl (isb (σ 9) (lnv σ 1 v)))
      rw [hl9]
      exact k134
    · show (_ : Option en_V) = some (.inl (en_wrap (σ 10 + lnv σ 1 v)))
      rw [hl9]
      exact k37
    · have e9 : sgL σ 1 v j = σ j := by
        show (if j = 8 then σ j - lnv σ 1 v else if j = 7 then σ j + lnv σ 1 v else if j = 10 then en_wrap (σ j + lnv σ 1 v) else if j = 9 then isb (σ j) (lnv σ 1 v) else σ j) = σ j
        rw [if_neg (by first | decide | omega), if_neg (by first | decide | omega), if_neg (by first | decide | omega), if_neg (by first | decide | omega)]
      rw [e9]
      exact ((e134 399 _ (by first | decide | omega)).trans ((e129 399 _ (by first | decide | omega)).trans ((e125 399 _ (by first | decide | omega)).trans (e123 399 _ (by first | decide | omega))))).trans (hσ j hj)
  · refine gx_2f (c := .le) rfl (by first | decide | omega) (by first | decide | omega) hc22 rfl ?_
    refine ex_go (S := (16, [(0, gx_r 383), (1, .inl 0), (2, .inl 1), (3, .inl v)], [gx_r 383], t0, n, 0)) rfl (fun _ => rfl) rfl ?_
    refine gx_ref (c := 399) rfl g0 rfl rfl rfl rfl ?_
    refine ex_go (S := (20, [(0, gx_r 383), (1, .inl 0), (2, .inl 1), (3, .inl v)], [.inl 0, gx_r 399], t0, n, 0)) rfl (fun _ => rfl) rfl ?_
    refine ex_go (S := (22, [(0, gx_r 383), (1, .inl 0), (2, .inl 1), (3, .inl v)], [.inl 7, .inl 0, gx_r 399], t0, n, 0)) rfl (fun _ => rfl) rfl ?_
    refine ex_go (S := (23, [(0, gx_r 383), (1, .inl 0), (2, .inl 1), (3, .inl v)], [.inl 7, gx_r 399], t0, n, 0)) rfl (fun _ => rfl) rfl ?_
    refine ex_go (S := (24, [(0, gx_r 383), (1, .inl 0), (2, .inl 1), (3, .inl v)], [.inl 1, .inl 7, gx_r 399], t0, n, 0)) rfl (fun _ => rfl) rfl ?_
    refine ex_go (S := (25, [(0, gx_r 383), (1, .inl 0), (2, .inl 1), (3, .inl v)], [.inl 8, gx_r 399], t0, n, 0)) rfl (fun _ => rfl) rfl ?_
    refine gx_ag (v := .inl (σ 8)) (cb := fun c => Nat.beq c 0) rfl (fun _ => rfl) g0 rfl rfl k21 (by first | decide | omega) rfl ?_
    refine ex_go (S := (30, [(0, gx_r 383), (1, .inl 0), (2, .inl 1), (3, .inl v)], [.inl (σ 8)], t0, n, 0)) rfl (fun _ => rfl) rfl ?_
    refine ex_go (S := (32, [(4, .inl (σ 8)), (0, gx_r 383), (1, .inl 0), (2, .inl 1), (3, .inl v)], [], t0, n, 0)) rfl (fun _ => rfl) rfl ?_
    refine ex_go (S := (33, [(4, .inl (σ 8)), (0, gx_r 383), (1, .inl 0), (2, .inl 1), (3, .inl v)], [gx_r 383], t0, n, 0)) rfl (fun _ => rfl) rfl ?_
    refine gx_ref (c := 399) rfl g0 rfl rfl rfl rfl ?_
    refine ex_go (S := (37, [(4, .inl (σ 8)), (0, gx_r 383), (1, .inl 0), (2, .inl 1), (3, .inl v)], [.inl 0, gx_r 399], t0, n, 0)) rfl (fun _ => rfl) rfl ?_
    refine ex_go (S := (39, [(4, .inl (σ 8)), (0, gx_r 383), (1, .inl 0), (2, .inl 1), (3, .inl v)], [.inl 7, .inl 0, gx_r 399], t0, n, 0)) rfl (fun _ => rfl) rfl ?_
    refine ex_go (S := (40, [(4, .inl (σ 8)), (0, gx_r 383), (1, .inl 0), (2, .inl 1), (3, .inl v)], [.inl 7, gx_r 399], t0, n, 0)) rfl (fun _ => rfl) rfl ?_
    refine ex_go (S := (41, [(4, .inl (σ 8)), (0, gx_r 383), (1, .inl 0), (2, .inl 1), (3, .inl v)], [.inl 1, .inl 7, gx_r 399], t0, n, 0)) rfl (fun _ => rfl) rfl ?_
    refine ex_go (S := (42, [(4, .inl (σ 8)), (0, gx_r 383), (1, .inl 0), (2, .inl 1), (3, .inl v)], [.inl 8, gx_r 399], t0, n, 0)) rfl (fun _ => rfl) rfl ?_
    refine ex_go (S := (43, [(4, .inl (σ 8)), (0, gx_r 383), (1, .inl 0), (2, .inl 1), (3, .inl v)], [.inl 8, gx_r 399, .inl 8, gx_r 399], t0, n, 0)) rfl (fun _ => rfl) rfl ?_
    refine gx_ag (v := .inl (σ 8)) (cb := fun c => Nat.beq c 0) rfl (fun _ => rfl) g0 rfl rfl k21 (by first | decide | omega) rfl ?_
    refine ex_go (S := (46, [(4, .inl (σ 8)), (0, gx_r 383), (1, .inl 0), (2, .inl 1), (3, .inl v)], [.inl (σ 8), .inl (σ 8), .inl 8, gx_r 399], t0, n, 0)) rfl (fun _ => rfl) rfl ?_
    refine gx_isub rfl (by first | decide | omega) (by first | decide | omega) rfl ?_
    refine gx_ap rfl (fun _ => rfl) g0 rfl rfl rfl (show 8 < 1035 from by omega) rfl (ai_in_h (by first | decide | omega) (by first | decide | omega) (by first | decide | omega)) rfl (fun t138 g138 k138 e138 => ?_)
    refine ex_go (S := (49, [(4, .inl (σ 8)), (0, gx_r 383), (1, .inl 0), (2, .inl 1), (3, .inl v)], [gx_r 383], t138, n, 0)) rfl (fun _ => rfl) rfl ?_
    refine gx_ref (c := 399) rfl g138 rfl rfl rfl rfl ?_
    refine ex_go (S := (53, [(4, .inl (σ 8)), (0, gx_r 383), (1, .inl 0), (2, .inl 1), (3, .inl v)], [.inl 0, gx_r 399], t138, n, 0)) rfl (fun _ => rfl) rfl ?_
    refine ex_go (S := (55, [(4, .inl (σ 8)), (0, gx_r 383), (1, .inl 0), (2, .inl 1), (3, .inl v)], [.inl 7, .inl 0, gx_r 399], t138, n, 0)) rfl (fun _ => rfl) rfl ?_
    refine ex_go (S := (56, [(4, .inl (σ 8)), (0, gx_r 383), (1, .inl 0), (2, .inl 1), (3, .inl v)], [.inl 7, gx_r 399], t138, n, 0)) rfl (fun _ => rfl) rfl ?_
    refine ex_go (S := (57, [(4, .inl (σ 8)), (0, gx_r 383), (1, .inl 0), (2, .inl 1), (3, .inl v)], [.inl 1, .inl 7, gx_r 399], t138, n, 0)) rfl (fun _ => rfl) rfl ?_
    refine ex_go (S := (58, [(4, .inl (σ 8)), (0, gx_r 383), (1, .inl 0), (2, .inl 1), (3, .inl v)], [.inl 8, gx_r 399], t138, n, 0)) rfl (fun _ => rfl) rfl ?_
    refine ex_go (S := (59, [(4, .inl (σ 8)), (0, gx_r 383), (1, .inl 0), (2, .inl 1), (3, .inl v)], [.inl 1, .inl 8, gx_r 399], t138, n, 0)) rfl (fun _ => rfl) rfl ?_
    refine ex_go (S := (60, [(4, .inl (σ 8)), (0, gx_r 383), (1, .inl 0), (2, .inl 1), (3, .inl v)], [.inl 7, gx_r 399], t138, n, 0)) rfl (fun _ => rfl) rfl ?_
    refine ex_go (S := (61, [(4, .inl (σ 8)), (0, gx_r 383), (1, .inl 0), (2, .inl 1), (3, .inl v)], [.inl 7, gx_r 399, .inl 7, gx_r 399], t138, n, 0)) rfl (fun _ => rfl) rfl ?_
    have k39 : ai_hv t138 399 7 = some (.inl (σ 7)) := (e138 399 7 (by first | decide | omega)).trans (hσ 7 (by decide))
    refine gx_ag (v := .inl (σ 7)) (cb := fun c => Nat.beq c 0) rfl (fun _ => rfl) g138 rfl rfl k39 (by first | decide | omega) rfl ?_
    refine ex_go (S := (64, [(4, .inl (σ 8)), (0, gx_r 383), (1, .inl 0), (2, .inl 1), (3, .inl v)], [.inl (σ 8), .inl (σ 7), .inl 7, gx_r 399], t138, n, 0)) rfl (fun _ => rfl) rfl ?_
    refine ex_iadd rfl (by first | decide | omega) rfl ?_
    refine gx_ap rfl (fun _ => rfl) g138 rfl rfl rfl (show 7 < 1035 from by omega) rfl (ai_in_h (by first | decide | omega) (by first | decide | omega) (by first | decide | omega)) rfl (fun t140 g140 k140 e140 => ?_)
    have k41 : ai_hv t140 399 8 = some (.inl ((σ 8) - (σ 8))) := (e140 399 8 (by first | decide | omega)).trans k138
    refine ex_go (S := (67, [(4, .inl (σ 8)), (0, gx_r 383), (1, .inl 0), (2, .inl 1), (3, .inl v)], [gx_r 383], t140, n, 0)) rfl (fun _ => rfl) rfl ?_
    refine gx_ref (c := 399) rfl g140 rfl rfl rfl rfl ?_
    refine ex_go (S := (71, [(4, .inl (σ 8)), (0, gx_r 383), (1, .inl 0), (2, .inl 1), (3, .inl v)], [.inl 0, gx_r 399], t140, n, 0)) rfl (fun _ => rfl) rfl ?_
    refine ex_go (S := (73, [(4, .inl (σ 8)), (0, gx_r 383), (1, .inl 0), (2, .inl 1), (3, .inl v)], [.inl 9, .inl 0, gx_r 399], t140, n, 0)) rfl (fun _ => rfl) rfl ?_
    refine ex_go (S := (74, [(4, .inl (σ 8)), (0, gx_r 383), (1, .inl 0), (2, .inl 1), (3, .inl v)], [.inl 9, gx_r 399], t140, n, 0)) rfl (fun _ => rfl) rfl ?_
    refine ex_go (S := (75, [(4, .inl (σ 8)), (0, gx_r 383), (1, .inl 0), (2, .inl 1), (3, .inl v)], [.inl 1, .inl 9, gx_r 399], t140, n, 0)) rfl (fun _ => rfl) rfl ?_
    refine ex_go (S := (76, [(4, .inl (σ 8)), (0, gx_r 383), (1, .inl 0), (2, .inl 1), (3, .inl v)], [.inl 10, gx_r 399], t140, n, 0)) rfl (fun _ => rfl) rfl ?_
    refine ex_go (S := (77, [(4, .inl (σ 8)), (0, gx_r 383), (1, .inl 0), (2, .inl 1), (3, .inl v)], [.inl 10, gx_r 399, .inl 10, gx_r 399], t140, n, 0)) rfl (fun _ => rfl) rfl ?_
    have k42 : ai_hv t140 399 10 = some (.inl (σ 10)) := (e140 399 10 (by first | decide | omega)).trans ((e138 399 10 (by first | decide | omega)).trans (hσ 10 (by decide)))
    refine gx_ag (v := .inl (σ 10)) (cb := fun c => Nat.beq c 0) rfl (fun _ => rfl) g140 rfl rfl k42 (by first | decide | omega) rfl ?_
    refine ex_go (S := (80, [(4, .inl (σ 8)), (0, gx_r 383), (1, .inl 0), (2, .inl 1), (3, .inl v)], [.inl (σ 8), .inl (σ 10), .inl 10, gx_r 399], t140, n, 0)) rfl (fun _ => rfl) rfl ?_
    have hw43 : en_wrap ((σ 10) + (σ 8)) < 4294967296 := wrap_lt
    refine gs_iaddx rfl rfl ?_
    refine gx_ap rfl (fun _ => rfl) g140 rfl rfl rfl (show 10 < 1035 from by omega) rfl (gx_full (by first | decide | omega)) rfl (fun t144 g144 k144 e144 => ?_)
    have k45 : ai_hv t144 399 8 = some (.inl ((σ 8) - (σ 8))) := (e144 399 8 (by first | decide | omega)).trans k41
    have k46 : ai_hv t144 399 7 = some (.inl ((σ 7) + (σ 8))) := (e144 399 7 (by first | decide | omega)).trans k140
    refine ex_go (S := (83, [(4, .inl (σ 8)), (0, gx_r 383), (1, .inl 0), (2, .inl 1), (3, .inl v)], [gx_r 383], t144, n, 0)) rfl (fun _ => rfl) rfl ?_
    refine gx_ref (c := 399) rfl g144 rfl rfl rfl rfl ?_
    refine ex_go (S := (87, [(4, .inl (σ 8)), (0, gx_r 383), (1, .inl 0), (2, .inl 1), (3, .inl v)], [.inl 0, gx_r 399], t144, n, 0)) rfl (fun _ => rfl) rfl ?_
    refine ex_go (S := (89, [(4, .inl (σ 8)), (0, gx_r 383), (1, .inl 0), (2, .inl 1), (3, .inl v)], [.inl 9, .inl 0, gx_r 399], t144, n, 0)) rfl (fun _ => rfl) rfl ?_
    refine ex_go (S := (90, [(4, .inl (σ 8)), (0, gx_r 383), (1, .inl 0), (2, .inl 1), (3, .inl v)], [.inl 9, gx_r 399], t144, n, 0)) rfl (fun _ => rfl) rfl ?_
    refine ex_go (S := (91, [(4, .inl (σ 8)), (0, gx_r 383), (1, .inl 0), (2, .inl 1), (3, .inl v)], [.inl 1, .inl 9, gx_r 399], t144, n, 0)) rfl (fun _ => rfl) rfl ?_
    refine ex_go (S := (92, [(4, .inl (σ 8)), (0, gx_r 383), (1, .inl 0), (2, .inl 1), (3, .inl v)], [.inl 10, gx_r 399], t144, n, 0)) rfl (fun _ => rfl) rfl ?_
    refine ex_go (S := (93, [(4, .inl (σ 8)), (0, gx_r 383), (1, .inl 0), (2, .inl 1), (3, .inl v)], [.inl 1, .inl 10, gx_r 399], t144, n, 0)) rfl (fun _ => rfl) rfl ?_
    refine ex_go (S := (94, [(4, .inl (σ 8)), (0, gx_r 383), (1, .inl 0), (2, .inl 1), (3, .inl v)], [.inl 9, gx_r 399], t144, n, 0)) rfl (fun _ => rfl) rfl ?_
    refine ex_go (S := (95, [(4, .inl (σ 8)), (0, gx_r 383), (1, .inl 0), (2, .inl 1), (3, .inl v)], [.inl 9, gx_r 399, .inl 9, gx_r 399], t144, n, 0)) rfl (fun _ => rfl) rfl ?_
    have k47 : ai_hv t144 399 9 = some (.inl (σ 9)) := (e144 399 9 (by first | decide | omega)).trans ((e140 399 9 (by first | decide | omega)).trans ((e138 399 9 (by first | decide | omega)).trans (hσ 9 (by decide))))
    refine gx_ag (v := .inl (σ 9)) (cb := fun c => Nat.beq c 0) rfl (fun _ => rfl) g144 rfl rfl k47 (by first | decide | omega) rfl ?_
    refine ex_go (S := (98, [(4, .inl (σ 8)), (0, gx_r 383), (1, .inl 0), (2, .inl 1), (3, .inl v)], [.inl (σ 8), .inl (σ 9), .inl 9, gx_r 399], t144, n, 0)) rfl (fun _ => rfl) rfl ?_
    have hw48 : isb (σ 9) (σ 8) < 4294967296 := isb_lt
    refine gx_isbx rfl rfl ?_
    refine gx_ap rfl (fun _ => rfl) g144 rfl rfl rfl (show 9 < 1035 from by omega) rfl (gx_full (by first | decide | omega)) rfl (fun t149 g149 k149 e149 => ?_)
    have k50 : ai_hv t149 399 8 = some (.inl ((σ 8) - (σ 8))) := (e149 399 8 (by first | decide | omega)).trans k45
    have k51 : ai_hv t149 399 7 = some (.inl ((σ 7) + (σ 8))) := (e149 399 7 (by first | decide | omega)).trans k46
    have k52 : ai_hv t149 399 10 = some (.inl (en_wrap ((σ 10) + (σ 8)))) := (e149 399 10 (by first | decide | omega)).trans k144
    refine ex_go (S := (102, [(4, .inl (σ 8)), (0, gx_r 383), (1, .inl 0), (2, .inl 1), (3, .inl v)], [.inl (σ 8)], t149, n, 0)) rfl (fun _ => rfl) rfl ?_
    refine ex_ret (r := (some (.inl (σ 8)), t149, n, 0)) rfl (fun _ => rfl) ?_
    have hl9 : lnv σ 1 v = σ 8 := by omega
    refine ⟨_, rfl, t149, by rw [hl9], g149, (fun c i h => (e149 c i (by first | decide | omega)).trans ((e144 c i (by first | decide | omega)).trans ((e140 c i (by first | decide | omega)).trans (e138 c i (by first | decide | omega))))), fun j hj => ?_⟩
    rcases (show j = 7 ∨ j = 8 ∨ j = 9 ∨ j = 10 ∨ (j ≠ 7 ∧ j ≠ 8 ∧ j ≠ 9 ∧ j ≠ 10) by omega) with rfl | rfl | rfl | rfl | h9
    · show (_ : Option en_V) = some (.inl (σ 7 + lnv σ 1 v))
      rw [hl9]
      exact k51
    · show (_ : Option en_V) = some (.inl (σ 8 - lnv σ 1 v))
      rw [hl9]
      exact k50
    · show (_ : Option en_V) = some (.inl (isb (σ 9) (lnv σ 1 v)))
      rw [hl9]
      exact k149
    · show (_ : Option en_V) = some (.inl (en_wrap (σ 10 + lnv σ 1 v)))
      rw [hl9]
      exact k52
    · have e9 : sgL σ 1 v j = σ j := by
        show (if j = 8 then σ j - lnv σ 1 v else if j = 7 then σ j + lnv σ 1 v else if j = 10 then en_wrap (σ j + lnv σ 1 v) else if j = 9 then isb (σ j) (lnv σ 1 v) else σ j) = σ j
        rw [if_neg (by first | decide | omega), if_neg (by first | decide | omega), if_neg (by first | decide | omega), if_neg (by first | decide | omega)]
      rw [e9]
      exact ((e149 399 _ (by first | decide | omega)).trans ((e144 399 _ (by first | decide | omega)).trans ((e140 399 _ (by first | decide | omega)).trans (e138 399 _ (by first | decide | omega))))).trans (hσ j hj)
theorem sr_mayL0_0 (d n : Nat) {t0 : en_H} {w : Nat → Nat → Nat} {L : List Nat} {σ : Nat → Nat} (g0 : ai_HG ah_G t0) (hR : RW t0 w L) (hb : sbd σ) (hσ : ∀ j, j < 17 → ai_hv t0 399 (0 + j) = some (.inl (σ j))) (hc : 0 < w 0 4) : ∃ r, en_u (d + 2) 119 [gx_r 383, .inl 0, .inl 0] t0 n = some r ∧ ∃ v, r = (some (.inl v), t0, n, 0) ∧ v ≤ 1 ∧ (v = 1 ↔ mayL w σ 0) := by
  have hw := WS_of hR
  obtain ⟨hb1, ⟨hb7, hb8⟩, ⟨hb11, hb12⟩, ⟨hb13, hb14⟩, ⟨hb15, hb16⟩, hb0, hb9, hb10⟩ := hb
  have hT := hw.1.2.2.1
  have hK := hw.1.2.2.2.2.1
  have kK := hR.1 4 (by first | decide | omega)
  have hml : mayL w σ 0 ↔ (w 0 4 = 2 ∧ σ 11 = 1 ∧ 0 < σ 7 ∧ σ 13 = σ (1 + w 3 1)) := Iff.rfl
  by_cases h2 : w 0 4 = 2
  · obtain ⟨ks1, hs1, -⟩ := hR.2.2.2.1 1 (by first | decide | omega)
    have hp1 := hb1 (w 3 1) (by first | decide | omega)
    refine en_u_ex (d := d + 1) rfl ?_
    show en_ex _ _ _ _ (0, [(0, gx_r 383), (1, .inl 0), (2, .inl 0)], [], t0, n, 0) _
    refine ex_go (S := (1, [(0, gx_r 383), (1, .inl 0), (2, .inl 0)], [gx_r 383], t0, n, 0)) rfl (fun _ => rfl) rfl ?_
    obtain ⟨_, r21, rfl⟩ := sr_crews d n g0 kK
    refine gx_call1 rfl rfl g0 rfl rfl r21 rfl ?_
    show en_ex _ _ _ _ (4, [(0, gx_r 383), (1, .inl 0), (2, .inl 0)], [.inl (w 0 4)], t0, n, 0) _
    refine ex_go (S := (5, [(0, gx_r 383), (1, .inl 0), (2, .inl 0)], [.inl 2, .inl (w 0 4)], t0, n, 0)) rfl (fun _ => rfl) rfl ?_
    refine gx_2f (c := .ne) rfl (by first | decide | omega) (by first | decide | omega) (show ¬ (w 0 4 ≠ 2) from by omega) rfl ?_
    refine ex_go (S := (9, [(0, gx_r 383), (1, .inl 0), (2, .inl 0)], [gx_r 383], t0, n, 0)) rfl (fun _ => rfl) rfl ?_
    refine gx_ref (c := 399) rfl g0 rfl rfl rfl rfl ?_
    refine ex_go (S := (13, [(0, gx_r 383), (1, .inl 0), (2, .inl 0)], [.inl 0, gx_r 399], t0, n, 0)) rfl (fun _ => rfl) rfl ?_
    refine ex_go (S := (15, [(0, gx_r 383), (1, .inl 0), (2, .inl 0)], [.inl 11, .inl 0, gx_r 399], t0, n, 0)) rfl (fun _ => rfl) rfl ?_
    refine ex_go (S := (16, [(0, gx_r 383), (1, .inl 0), (2, .inl 0)], [.inl 11, gx_r 399], t0, n, 0)) rfl (fun _ => rfl) rfl ?_
    refine ex_go (S := (17, [(0, gx_r 383), (1, .inl 0), (2, .inl 0)], [.inl 0, .inl 11, gx_r 399], t0, n, 0)) rfl (fun _ => rfl) rfl ?_
    refine ex_go (S := (18, [(0, gx_r 383), (1, .inl 0), (2, .inl 0)], [.inl 11, gx_r 399], t0, n, 0)) rfl (fun _ => rfl) rfl ?_
    have k22 : ai_hv t0 399 11 = some (.inl (σ 11)) := hσ 11 (by decide)
    refine gx_ag (v := .inl (σ 11)) (cb := fun c => Nat.beq c 0) rfl (fun _ => rfl) g0 rfl rfl k22 (by first | decide | omega) rfl ?_
    refine ex_go (S := (20, [(0, gx_r 383), (1, .inl 0), (2, .inl 0)], [.inl 1, .inl (σ 11)], t0, n, 0)) rfl (fun _ => rfl) rfl ?_
    by_cases hc23 : σ 11 ≠ 1
    · refine gx_2t (c := .ne) rfl (by first | decide | omega) (by first | decide | omega) hc23 rfl ?_
      refine ex_go (S := (73, [(0, gx_r 383), (1, .inl 0), (2, .inl 0)], [.inl 0], t0, n, 0)) rfl (fun _ => rfl) rfl ?_
      refine ex_ret (r := (some (.inl 0), t0, n, 0)) rfl (fun _ => rfl) ?_
      exact ⟨_, rfl, 0, rfl, by decide, by rw [hml]; omega⟩
    · refine gx_2f (c := .ne) rfl (by first | decide | omega) (by first | decide | omega) hc23 rfl ?_
      refine ex_go (S := (24, [(0, gx_r 383), (1, .inl 0), (2, .inl 0)], [gx_r 383], t0, n, 0)) rfl (fun _ => rfl) rfl ?_
      refine gx_ref (c := 399) rfl g0 rfl rfl rfl rfl ?_
      refine ex_go (S := (28, [(0, gx_r 383), (1, .inl 0), (2, .inl 0)], [.inl 0, gx_r 399], t0, n, 0)) rfl (fun _ => rfl) rfl ?_
      refine ex_go (S := (30, [(0, gx_r 383), (1, .inl 0), (2, .inl 0)], [.inl 7, .inl 0, gx_r 399], t0, n, 0)) rfl (fun _ => rfl) rfl ?_
      refine ex_go (S := (31, [(0, gx_r 383), (1, .inl 0), (2, .inl 0)], [.inl 7, gx_r 399], t0, n, 0)) rfl (fun _ => rfl) rfl ?_
      refine ex_go (S := (32, [(0, gx_r 383), (1, .inl 0), (2, .inl 0)], [.inl 0, .inl 7, gx_r 399], t0, n, 0)) rfl (fun _ => rfl) rfl ?_
      refine ex_go (S := (33, [(0, gx_r 383), (1, .inl 0), (2, .inl 0)], [.inl 7, gx_r 399], t0, n, 0)) rfl (fun _ => rfl) rfl ?_
      have k24 : ai_hv t0 399 7 = some (.inl (σ 7)) := hσ 7 (by decide)
      refine gx_ag (v := .inl (σ 7)) (cb := fun c => Nat.beq c 0) rfl (fun _ => rfl) g0 rfl rfl k24 (by first | decide | omega) rfl ?_
      by_cases hc25 : σ 7 ≤ 0
      · refine gx_1t (c := .le) rfl (by first | decide | omega) hc25 rfl ?_
        refine ex_go (S := (73, [(0, gx_r 383), (1, .inl 0), (2, .inl 0)], [.inl 0], t0, n, 0)) rfl (fun _ => rfl) rfl ?_
        refine ex_ret (r := (some (.inl 0), t0, n, 0)) rfl (fun _ => rfl) ?_
        exact ⟨_, rfl, 0, rfl, by decide, by rw [hml]; omega⟩
      · refine gx_1f (c := .le) rfl (by first | decide | omega) hc25 rfl ?_
        refine ex_go (S := (38, [(0, gx_r 383), (1, .inl 0), (2, .inl 0)], [gx_r 383], t0, n, 0)) rfl (fun _ => rfl) rfl ?_
        refine gx_ref (c := 399) rfl g0 rfl rfl rfl rfl ?_
        refine ex_go (S := (42, [(0, gx_r 383), (1, .inl 0), (2, .inl 0)], [.inl 0, gx_r 399], t0, n, 0)) rfl (fun _ => rfl) rfl ?_
        refine ex_go (S := (44, [(0, gx_r 383), (1, .inl 0), (2, .inl 0)], [.inl 13, .inl 0, gx_r 399], t0, n, 0)) rfl (fun _ => rfl) rfl ?_
        refine ex_go (S := (45, [(0, gx_r 383), (1, .inl 0), (2, .inl 0)], [.inl 13, gx_r 399], t0, n, 0)) rfl (fun _ => rfl) rfl ?_
        refine ex_go (S := (46, [(0, gx_r 383), (1, .inl 0), (2, .inl 0)], [.inl 0, .inl 13, gx_r 399], t0, n, 0)) rfl (fun _ => rfl) rfl ?_
        refine ex_go (S := (47, [(0, gx_r 383), (1, .inl 0), (2, .inl 0)], [.inl 13, gx_r 399], t0, n, 0)) rfl (fun _ => rfl) rfl ?_
        have k26 : ai_hv t0 399 13 = some (.inl (σ 13)) := hσ 13 (by decide)
        refine gx_ag (v := .inl (σ 13)) (cb := fun c => Nat.beq c 0) rfl (fun _ => rfl) g0 rfl rfl k26 (by first | decide | omega) rfl ?_
        refine ex_go (S := (49, [(0, gx_r 383), (1, .inl 0), (2, .inl 0)], [gx_r 383, .inl (σ 13)], t0, n, 0)) rfl (fun _ => rfl) rfl ?_
        refine gx_ref (c := 399) rfl g0 rfl rfl rfl rfl ?_
        refine ex_go (S := (53, [(0, gx_r 383), (1, .inl 0), (2, .inl 0)], [.inl 0, gx_r 399, .inl (σ 13)], t0, n, 0)) rfl (fun _ => rfl) rfl ?_
        refine ex_go (S := (54, [(0, gx_r 383), (1, .inl 0), (2, .inl 0)], [.inl 1, .inl 0, gx_r 399, .inl (σ 13)], t0, n, 0)) rfl (fun _ => rfl) rfl ?_
        refine ex_go (S := (55, [(0, gx_r 383), (1, .inl 0), (2, .inl 0)], [.inl 1, gx_r 399, .inl (σ 13)], t0, n, 0)) rfl (fun _ => rfl) rfl ?_
        refine ex_go (S := (56, [(0, gx_r 383), (1, .inl 0), (2, .inl 0)], [gx_r 383, .inl 1, gx_r 399, .inl (σ 13)], t0, n, 0)) rfl (fun _ => rfl) rfl ?_
        refine ex_go (S := (57, [(0, gx_r 383), (1, .inl 0), (2, .inl 0)], [.inl 1, gx_r 383, .inl 1, gx_r 399, .inl (σ 13)], t0, n, 0)) rfl (fun _ => rfl) rfl ?_
        refine ex_go (S := (58, [(0, gx_r 383), (1, .inl 0), (2, .inl 0)], [.inl 0, .inl 1, gx_r 383, .inl 1, gx_r 399, .inl (σ 13)], t0, n, 0)) rfl (fun _ => rfl) rfl ?_
        refine ex_go (S := (59, [(0, gx_r 383), (1, .inl 0), (2, .inl 0)], [.inl 1, gx_r 383, .inl 1, gx_r 399, .inl (σ 13)], t0, n, 0)) rfl (fun _ => rfl) rfl ?_
        refine ex_go (S := (60, [(0, gx_r 383), (1, .inl 0), (2, .inl 0)], [.inl 0, .inl 1, gx_r 383, .inl 1, gx_r 399, .inl (σ 13)], t0, n, 0)) rfl (fun _ => rfl) rfl ?_
        obtain ⟨_, r27, rfl⟩ := pe_crewOf (d) n (c := 1) (w := 0) g0 (by first | decide | omega) (by first | decide | omega) (ks1)
        refine gx_call1 rfl rfl g0 rfl rfl r27 rfl ?_
        show en_ex _ _ _ _ (63, [(0, gx_r 383), (1, .inl 0), (2, .inl 0)], [.inl (w 3 1), .inl 1, gx_r 399, .inl (σ 13)], t0, n, 0) _
        refine ex_iadd rfl (by first | decide | omega) rfl ?_
        have k28 := (show ai_hv t0 399 (1 + (w 3 1)) = some (.inl (σ (1 + w 3 1))) from by have h9 := hσ (1 + w 3 1) (by first | decide | omega); rw [show 0 + (1 + w 3 1) = 1 + (w 3 1) by omega] at h9; exact h9)
        refine gx_ag (v := .inl (σ (1 + w 3 1))) (cb := fun c => Nat.beq c 0) rfl (fun _ => rfl) g0 rfl rfl k28 (by first | decide | omega) rfl ?_
        by_cases hc29 : σ 13 ≠ σ (1 + w 3 1)
        · refine gx_2t (c := .ne) rfl (by first | decide | omega) (by first | decide | omega) hc29 rfl ?_
          refine ex_go (S := (73, [(0, gx_r 383), (1, .inl 0), (2, .inl 0)], [.inl 0], t0, n, 0)) rfl (fun _ => rfl) rfl ?_
          refine ex_ret (r := (some (.inl 0), t0, n, 0)) rfl (fun _ => rfl) ?_
          exact ⟨_, rfl, 0, rfl, by decide, by rw [hml]; omega⟩
        · refine gx_2f (c := .ne) rfl (by first | decide | omega) (by first | decide | omega) hc29 rfl ?_
          refine ex_go (S := (69, [(0, gx_r 383), (1, .inl 0), (2, .inl 0)], [.inl 1], t0, n, 0)) rfl (fun _ => rfl) rfl ?_
          refine ex_go (S := (73, [(0, gx_r 383), (1, .inl 0), (2, .inl 0)], [.inl 1], t0, n, 0)) rfl (fun _ => rfl) rfl ?_
          refine ex_ret (r := (some (.inl 1), t0, n, 0)) rfl (fun _ => rfl) ?_
          exact ⟨_, rfl, 1, rfl, by decide, by rw [hml]; omega⟩
  · refine en_u_ex (d := d + 1) rfl ?_
    show en_ex _ _ _ _ (0, [(0, gx_r 383), (1, .inl 0), (2, .inl 0)], [], t0, n, 0) _
    refine ex_go (S := (1, [(0, gx_r 383), (1, .inl 0), (2, .inl 0)], [gx_r 383], t0, n, 0)) rfl (fun _ => rfl) rfl ?_
    obtain ⟨_, r21, rfl⟩ := sr_crews d n g0 kK
    refine gx_call1 rfl rfl g0 rfl rfl r21 rfl ?_
    show en_ex _ _ _ _ (4, [(0, gx_r 383), (1, .inl 0), (2, .inl 0)], [.inl (w 0 4)], t0, n, 0) _
    refine ex_go (S := (5, [(0, gx_r 383), (1, .inl 0), (2, .inl 0)], [.inl 2, .inl (w 0 4)], t0, n, 0)) rfl (fun _ => rfl) rfl ?_
    refine gx_2t (c := .ne) rfl (by first | decide | omega) (by first | decide | omega) (show w 0 4 ≠ 2 from by omega) rfl ?_
    refine ex_go (S := (73, [(0, gx_r 383), (1, .inl 0), (2, .inl 0)], [.inl 0], t0, n, 0)) rfl (fun _ => rfl) rfl ?_
    refine ex_ret (r := (some (.inl 0), t0, n, 0)) rfl (fun _ => rfl) ?_
    exact ⟨_, rfl, 0, rfl, by decide, by rw [hml]; omega⟩
theorem sr_mayL0_1 (d n : Nat) {t0 : en_H} {w : Nat → Nat → Nat} {L : List Nat} {σ : Nat → Nat} (g0 : ai_HG ah_G t0) (hR : RW t0 w L) (hb : sbd σ) (hσ : ∀ j, j < 17 → ai_hv t0 399 (0 + j) = some (.inl (σ j))) (hc : 1 < w 0 4) : ∃ r, en_u (d + 2) 119 [gx_r 383, .inl 0, .inl 1] t0 n = some r ∧ ∃ v, r = (some (.inl v), t0, n, 0) ∧ v ≤ 1 ∧ (v = 1 ↔ mayL w σ 1) := by
  have hw := WS_of hR
  obtain ⟨hb1, ⟨hb7, hb8⟩, ⟨hb11, hb12⟩, ⟨hb13, hb14⟩, ⟨hb15, hb16⟩, hb0, hb9, hb10⟩ := hb
  have hT := hw.1.2.2.1
  have hK := hw.1.2.2.2.2.1
  have kK := hR.1 4 (by first | decide | omega)
  have hml : mayL w σ 1 ↔ (w 0 4 = 2 ∧ σ 12 = 1 ∧ 0 < σ 8 ∧ σ 14 = σ (1 + w 3 0)) := Iff.rfl
  by_cases h2 : w 0 4 = 2
  · obtain ⟨ks0, hs0, -⟩ := hR.2.2.2.1 0 (by first | decide | omega)
    have hp0 := hb1 (w 3 0) (by first | decide | omega)
    refine en_u_ex (d := d + 1) rfl ?_
    show en_ex _ _ _ _ (0, [(0, gx_r 383), (1, .inl 0), (2, .inl 1)], [], t0, n, 0) _
    refine ex_go (S := (1, [(0, gx_r 383), (1, .inl 0), (2, .inl 1)], [gx_r 383], t0, n, 0)) rfl (fun _ => rfl) rfl ?_
    obtain ⟨_, r21, rfl⟩ := sr_crews d n g0 kK
    refine gx_call1 rfl rfl g0 rfl rfl r21 rfl ?_
    show en_ex _ _ _ _ (4, [(0, gx_r 383), (1, .inl 0), (2, .inl 1)], [.inl (w 0 4)], t0, n, 0) _
    refine ex_go (S := (5, [(0, gx_r 383), (1, .inl 0), (2, .inl 1)], [.inl 2, .inl (w 0 4)], t0, n, 0)) rfl (fun _ => rfl) rfl ?_
    refine gx_2f (c := .ne) rfl (by first | decide | omega) (by first | decide | omega) (show ¬ (w 0 4 ≠ 2) from by omega) rfl ?_
    refine ex_go (S := (9, [(0, gx_r 383), (1, .inl 0), (2, .inl 1)], [gx_r 383], t0, n, 0)) rfl (fun _ => rfl) rfl ?_
    refine gx_ref (c := 399) rfl g0 rfl rfl rfl rfl ?_
    refine ex_go (S := (13, [(0, gx_r 383), (1, .inl 0), (2, .inl 1)], [.inl 0, gx_r 399], t0, n, 0)) rfl (fun _ => rfl) rfl ?_
    refine ex_go (S := (15, [(0, gx_r 383), (1, .inl 0), (2, .inl 1)], [.inl 11, .inl 0, gx_r 399], t0, n, 0)) rfl (fun _ => rfl) rfl ?_
    refine ex_go (S := (16, [(0, gx_r 383), (1, .inl 0), (2, .inl 1)], [.inl 11, gx_r 399], t0, n, 0)) rfl (fun _ => rfl) rfl ?_
    refine ex_go (S := (17, [(0, gx_r 383), (1, .inl 0), (2, .inl 1)], [.inl 1, .inl 11, gx_r 399], t0, n, 0)) rfl (fun _ => rfl) rfl ?_
    refine ex_go (S := (18, [(0, gx_r 383), (1, .inl 0), (2, .inl 1)], [.inl 12, gx_r 399], t0, n, 0)) rfl (fun _ => rfl) rfl ?_
    have k22 : ai_hv t0 399 12 = some (.inl (σ 12)) := hσ 12 (by decide)
    refine gx_ag (v := .inl (σ 12)) (cb := fun c => Nat.beq c 0) rfl (fun _ => rfl) g0 rfl rfl k22 (by first | decide | omega) rfl ?_
    refine ex_go (S := (20, [(0, gx_r 383), (1, .inl 0), (2, .inl 1)], [.inl 1, .inl (σ 12)], t0, n, 0)) rfl (fun _ => rfl) rfl ?_
    by_cases hc23 : σ 12 ≠ 1
    · refine gx_2t (c := .ne) rfl (by first | decide | omega) (by first | decide | omega) hc23 rfl ?_
      refine ex_go (S := (73, [(0, gx_r 383), (1, .inl 0), (2, .inl 1)], [.inl 0], t0, n, 0)) rfl (fun _ => rfl) rfl ?_
      refine ex_ret (r := (some (.inl 0), t0, n, 0)) rfl (fun _ => rfl) ?_
      exact ⟨_, rfl, 0, rfl, by decide, by rw [hml]; omega⟩
    · refine gx_2f (c := .ne) rfl (by first | decide | omega) (by first | decide | omega) hc23 rfl ?_
      refine ex_go (S := (24, [(0, gx_r 383), (1, .inl 0), (2, .inl 1)], [gx_r 383], t0, n, 0)) rfl (fun _ => rfl) rfl ?_
      refine gx_ref (c := 399) rfl g0 rfl rfl rfl rfl ?_
      refine ex_go (S := (28, [(0, gx_r 383), (1, .inl 0), (2, .inl 1)], [.inl 0, gx_r 399], t0, n, 0)) rfl (fun _ => rfl) rfl ?_
      refine ex_go (S := (30, [(0, gx_r 383), (1, .inl 0), (2, .inl 1)], [.inl 7, .inl 0, gx_r 399], t0, n, 0)) rfl (fun _ => rfl) rfl ?_
      refine ex_go (S := (31, [(0, gx_r 383), (1, .inl 0), (2, .inl 1)], [.inl 7, gx_r 399], t0, n, 0)) rfl (fun _ => rfl) rfl ?_
      refine ex_go (S := (32, [(0, gx_r 383), (1, .inl 0), (2, .inl 1)], [.inl 1, .inl 7, gx_r 399], t0, n, 0)) rfl (fun _ => rfl) rfl ?_
      refine ex_go (S := (33, [(0, gx_r 383), (1, .inl 0), (2, .inl 1)], [.inl 8, gx_r 399], t0, n, 0)) rfl (fun _ => rfl) rfl ?_
      have k24 : ai_hv t0 399 8 = some (.inl (σ 8)) := hσ 8 (by decide)
      refine gx_ag (v := .inl (σ 8)) (cb := fun c => Nat.beq c 0) rfl (fun _ => rfl) g0 rfl rfl k24 (by first | decide | omega) rfl ?_
      by_cases hc25 : σ 8 ≤ 0
      · refine gx_1t (c := .le) rfl (by first | decide | omega) hc25 rfl ?_
        refine ex_go (S := (73, [(0, gx_r 383), (1, .inl 0), (2, .inl 1)], [.inl 0], t0, n, 0)) rfl (fun _ => rfl) rfl ?_
        refine ex_ret (r := (some (.inl 0), t0, n, 0)) rfl (fun _ => rfl) ?_
        exact ⟨_, rfl, 0, rfl, by decide, by rw [hml]; omega⟩
      · refine gx_1f (c := .le) rfl (by first | decide | omega) hc25 rfl ?_
        refine ex_go (S := (38, [(0, gx_r 383), (1, .inl 0), (2, .inl 1)], [gx_r 383], t0, n, 0)) rfl (fun _ => rfl) rfl ?_
        refine gx_ref (c := 399) rfl g0 rfl rfl rfl rfl ?_
        refine ex_go (S := (42, [(0, gx_r 383), (1, .inl 0), (2, .inl 1)], [.inl 0, gx_r 399], t0, n, 0)) rfl (fun _ => rfl) rfl ?_
        refine ex_go (S := (44, [(0, gx_r 383), (1, .inl 0), (2, .inl 1)], [.inl 13, .inl 0, gx_r 399], t0, n, 0)) rfl (fun _ => rfl) rfl ?_
        refine ex_go (S := (45, [(0, gx_r 383), (1, .inl 0), (2, .inl 1)], [.inl 13, gx_r 399], t0, n, 0)) rfl (fun _ => rfl) rfl ?_
        refine ex_go (S := (46, [(0, gx_r 383), (1, .inl 0), (2, .inl 1)], [.inl 1, .inl 13, gx_r 399], t0, n, 0)) rfl (fun _ => rfl) rfl ?_
        refine ex_go (S := (47, [(0, gx_r 383), (1, .inl 0), (2, .inl 1)], [.inl 14, gx_r 399], t0, n, 0)) rfl (fun _ => rfl) rfl ?_
        have k26 : ai_hv t0 399 14 = some (.inl (σ 14)) := hσ 14 (by decide)
        refine gx_ag (v := .inl (σ 14)) (cb := fun c => Nat.beq c 0) rfl (fun _ => rfl) g0 rfl rfl k26 (by first | decide | omega) rfl ?_
        refine ex_go (S := (49, [(0, gx_r 383), (1, .inl 0), (2, .inl 1)], [gx_r 383, .inl (σ 14)], t0, n, 0)) rfl (fun _ => rfl) rfl ?_
        refine gx_ref (c := 399) rfl g0 rfl rfl rfl rfl ?_
        refine ex_go (S := (53, [(0, gx_r 383), (1, .inl 0), (2, .inl 1)], [.inl 0, gx_r 399, .inl (σ 14)], t0, n, 0)) rfl (fun _ => rfl) rfl ?_
        refine ex_go (S := (54, [(0, gx_r 383), (1, .inl 0), (2, .inl 1)], [.inl 1, .inl 0, gx_r 399, .inl (σ 14)], t0, n, 0)) rfl (fun _ => rfl) rfl ?_
        refine ex_go (S := (55, [(0, gx_r 383), (1, .inl 0), (2, .inl 1)], [.inl 1, gx_r 399, .inl (σ 14)], t0, n, 0)) rfl (fun _ => rfl) rfl ?_
        refine ex_go (S := (56, [(0, gx_r 383), (1, .inl 0), (2, .inl 1)], [gx_r 383, .inl 1, gx_r 399, .inl (σ 14)], t0, n, 0)) rfl (fun _ => rfl) rfl ?_
        refine ex_go (S := (57, [(0, gx_r 383), (1, .inl 0), (2, .inl 1)], [.inl 1, gx_r 383, .inl 1, gx_r 399, .inl (σ 14)], t0, n, 0)) rfl (fun _ => rfl) rfl ?_
        refine ex_go (S := (58, [(0, gx_r 383), (1, .inl 0), (2, .inl 1)], [.inl 1, .inl 1, gx_r 383, .inl 1, gx_r 399, .inl (σ 14)], t0, n, 0)) rfl (fun _ => rfl) rfl ?_
        refine ex_go (S := (59, [(0, gx_r 383), (1, .inl 0), (2, .inl 1)], [.inl 0, gx_r 383, .inl 1, gx_r 399, .inl (σ 14)], t0, n, 0)) rfl (fun _ => rfl) rfl ?_
        refine ex_go (S := (60, [(0, gx_r 383), (1, .inl 0), (2, .inl 1)], [.inl 0, .inl 0, gx_r 383, .inl 1, gx_r 399, .inl (σ 14)], t0, n, 0)) rfl (fun _ => rfl) rfl ?_
        obtain ⟨_, r27, rfl⟩ := pe_crewOf (d) n (c := 0) (w := 0) g0 (by first | decide | omega) (by first | decide | omega) (ks0)
        refine gx_call1 rfl rfl g0 rfl rfl r27 rfl ?_
        show en_ex _ _ _ _ (63, [(0, gx_r 383), (1, .inl 0), (2, .inl 1)], [.inl (w 3 0), .inl 1, gx_r 399, .inl (σ 14)], t0, n, 0) _
        refine ex_iadd rfl (by first | decide | omega) rfl ?_
        have k28 := (show ai_hv t0 399 (1 + (w 3 0)) = some (.inl (σ (1 + w 3 0))) from by have h9 := hσ (1 + w 3 0) (by first | decide | omega); rw [show 0 + (1 + w 3 0) = 1 + (w 3 0) by omega] at h9; exact h9)
        refine gx_ag (v := .inl (σ (1 + w 3 0))) (cb := fun c => Nat.beq c 0) rfl (fun _ => rfl) g0 rfl rfl k28 (by first | decide | omega) rfl ?_
        by_cases hc29 : σ 14 ≠ σ (1 + w 3 0)
        · refine gx_2t (c := .ne) rfl (by first | decide | omega) (by first | decide | omega) hc29 rfl ?_
          refine ex_go (S := (73, [(0, gx_r 383), (1, .inl 0), (2, .inl 1)], [.inl 0], t0, n, 0)) rfl (fun _ => rfl) rfl ?_
          refine ex_ret (r := (some (.inl 0), t0, n, 0)) rfl (fun _ => rfl) ?_
          exact ⟨_, rfl, 0, rfl, by decide, by rw [hml]; omega⟩
        · refine gx_2f (c := .ne) rfl (by first | decide | omega) (by first | decide | omega) hc29 rfl ?_
          refine ex_go (S := (69, [(0, gx_r 383), (1, .inl 0), (2, .inl 1)], [.inl 1], t0, n, 0)) rfl (fun _ => rfl) rfl ?_
          refine ex_go (S := (73, [(0, gx_r 383), (1, .inl 0), (2, .inl 1)], [.inl 1], t0, n, 0)) rfl (fun _ => rfl) rfl ?_
          refine ex_ret (r := (some (.inl 1), t0, n, 0)) rfl (fun _ => rfl) ?_
          exact ⟨_, rfl, 1, rfl, by decide, by rw [hml]; omega⟩
  · refine en_u_ex (d := d + 1) rfl ?_
    show en_ex _ _ _ _ (0, [(0, gx_r 383), (1, .inl 0), (2, .inl 1)], [], t0, n, 0) _
    refine ex_go (S := (1, [(0, gx_r 383), (1, .inl 0), (2, .inl 1)], [gx_r 383], t0, n, 0)) rfl (fun _ => rfl) rfl ?_
    obtain ⟨_, r21, rfl⟩ := sr_crews d n g0 kK
    refine gx_call1 rfl rfl g0 rfl rfl r21 rfl ?_
    show en_ex _ _ _ _ (4, [(0, gx_r 383), (1, .inl 0), (2, .inl 1)], [.inl (w 0 4)], t0, n, 0) _
    refine ex_go (S := (5, [(0, gx_r 383), (1, .inl 0), (2, .inl 1)], [.inl 2, .inl (w 0 4)], t0, n, 0)) rfl (fun _ => rfl) rfl ?_
    refine gx_2t (c := .ne) rfl (by first | decide | omega) (by first | decide | omega) (show w 0 4 ≠ 2 from by omega) rfl ?_
    refine ex_go (S := (73, [(0, gx_r 383), (1, .inl 0), (2, .inl 1)], [.inl 0], t0, n, 0)) rfl (fun _ => rfl) rfl ?_
    refine ex_ret (r := (some (.inl 0), t0, n, 0)) rfl (fun _ => rfl) ?_
    exact ⟨_, rfl, 0, rfl, by decide, by rw [hml]; omega⟩
theorem sr_mayM0_0 (d n : Nat) {t0 : en_H} {w : Nat → Nat → Nat} {L : List Nat} {σ : Nat → Nat} (g0 : ai_HG ah_G t0) (hR : RW t0 w L) (hb : sbd σ) (hσ : ∀ j, j < 17 → ai_hv t0 399 (0 + j) = some (.inl (σ j))) (hc : 0 < w 0 4) : ∃ r, en_u (d + 2) 121 [gx_r 383, .inl 0, .inl 0] t0 n = some r ∧ ∃ v, r = (some (.inl v), t0, n, 0) ∧ v ≤ 1 ∧ (v = 1 ↔ mayM w σ 0) := by
  have hw := WS_of hR
  obtain ⟨hb1, ⟨hb7, hb8⟩, ⟨hb11, hb12⟩, ⟨hb13, hb14⟩, ⟨hb15, hb16⟩, hb0, hb9, hb10⟩ := hb
  have hT := hw.1.2.2.1
  have hK := hw.1.2.2.2.2.1
  obtain ⟨ks0, hs0, -⟩ := hR.2.2.2.1 0 (by first | decide | omega)
  have hp0 := hb1 (w 3 0) (by first | decide | omega)
  have hml : mayM w σ 0 ↔ (σ 11 = 1 ∧ σ 13 = σ (1 + w 3 0)) := Iff.rfl
  refine en_u_ex (d := d + 1) rfl ?_
  show en_ex _ _ _ _ (0, [(0, gx_r 383), (1, .inl 0), (2, .inl 0)], [], t0, n, 0) _
  refine ex_go (S := (1, [(0, gx_r 383), (1, .inl 0), (2, .inl 0)], [gx_r 383], t0, n, 0)) rfl (fun _ => rfl) rfl ?_
  refine gx_ref (c := 399) rfl g0 rfl rfl rfl rfl ?_
  refine ex_go (S := (5, [(0, gx_r 383), (1, .inl 0), (2, .inl 0)], [.inl 0, gx_r 399], t0, n, 0)) rfl (fun _ => rfl) rfl ?_
  refine ex_go (S := (7, [(0, gx_r 383), (1, .inl 0), (2, .inl 0)], [.inl 11, .inl 0, gx_r 399], t0, n, 0)) rfl (fun _ => rfl) rfl ?_
  refine ex_go (S := (8, [(0, gx_r 383), (1, .inl 0), (2, .inl 0)], [.inl 11, gx_r 399], t0, n, 0)) rfl (fun _ => rfl) rfl ?_
  refine ex_go (S := (9, [(0, gx_r 383), (1, .inl 0), (2, .inl 0)], [.inl 0, .inl 11, gx_r 399], t0, n, 0)) rfl (fun _ => rfl) rfl ?_
  refine ex_go (S := (10, [(0, gx_r 383), (1, .inl 0), (2, .inl 0)], [.inl 11, gx_r 399], t0, n, 0)) rfl (fun _ => rfl) rfl ?_
  have k21 : ai_hv t0 399 11 = some (.inl (σ 11)) := hσ 11 (by decide)
  refine gx_ag (v := .inl (σ 11)) (cb := fun c => Nat.beq c 0) rfl (fun _ => rfl) g0 rfl rfl k21 (by first | decide | omega) rfl ?_
  refine ex_go (S := (12, [(0, gx_r 383), (1, .inl 0), (2, .inl 0)], [.inl 1, .inl (σ 11)], t0, n, 0)) rfl (fun _ => rfl) rfl ?_
  by_cases hc22 : σ 11 ≠ 1
  · refine gx_2t (c := .ne) rfl (by first | decide | omega) (by first | decide | omega) hc22 rfl ?_
    refine ex_go (S := (49, [(0, gx_r 383), (1, .inl 0), (2, .inl 0)], [.inl 0], t0, n, 0)) rfl (fun _ => rfl) rfl ?_
    refine ex_ret (r := (some (.inl 0), t0, n, 0)) rfl (fun _ => rfl) ?_
    exact ⟨_, rfl, 0, rfl, by decide, by rw [hml]; omega⟩
  · refine gx_2f (c := .ne) rfl (by first | decide | omega) (by first | decide | omega) hc22 rfl ?_
    refine ex_go (S := (16, [(0, gx_r 383), (1, .inl 0), (2, .inl 0)], [gx_r 383], t0, n, 0)) rfl (fun _ => rfl) rfl ?_
    refine gx_ref (c := 399) rfl g0 rfl rfl rfl rfl ?_
    refine ex_go (S := (20, [(0, gx_r 383), (1, .inl 0), (2, .inl 0)], [.inl 0, gx_r 399], t0, n, 0)) rfl (fun _ => rfl) rfl ?_
    refine ex_go (S := (22, [(0, gx_r 383), (1, .inl 0), (2, .inl 0)], [.inl 13, .inl 0, gx_r 399], t0, n, 0)) rfl (fun _ => rfl) rfl ?_
    refine ex_go (S := (23, [(0, gx_r 383), (1, .inl 0), (2, .inl 0)], [.inl 13, gx_r 399], t0, n, 0)) rfl (fun _ => rfl) rfl ?_
    refine ex_go (S := (24, [(0, gx_r 383), (1, .inl 0), (2, .inl 0)], [.inl 0, .inl 13, gx_r 399], t0, n, 0)) rfl (fun _ => rfl) rfl ?_
    refine ex_go (S := (25, [(0, gx_r 383), (1, .inl 0), (2, .inl 0)], [.inl 13, gx_r 399], t0, n, 0)) rfl (fun _ => rfl) rfl ?_
    have k23 : ai_hv t0 399 13 = some (.inl (σ 13)) := hσ 13 (by decide)
    refine gx_ag (v := .inl (σ 13)) (cb := fun c => Nat.beq c 0) rfl (fun _ => rfl) g0 rfl rfl k23 (by first | decide | omega) rfl ?_
    refine ex_go (S := (27, [(0, gx_r 383), (1, .inl 0), (2, .inl 0)], [gx_r 383, .inl (σ 13)], t0, n, 0)) rfl (fun _ => rfl) rfl ?_
    refine gx_ref (c := 399) rfl g0 rfl rfl rfl rfl ?_
    refine ex_go (S := (31, [(0, gx_r 383), (1, .inl 0), (2, .inl 0)], [.inl 0, gx_r 399, .inl (σ 13)], t0, n, 0)) rfl (fun _ => rfl) rfl ?_
    refine ex_go (S := (32, [(0, gx_r 383), (1, .inl 0), (2, .inl 0)], [.inl 1, .inl 0, gx_r 399, .inl (σ 13)], t0, n, 0)) rfl (fun _ => rfl) rfl ?_
    refine ex_go (S := (33, [(0, gx_r 383), (1, .inl 0), (2, .inl 0)], [.inl 1, gx_r 399, .inl (σ 13)], t0, n, 0)) rfl (fun _ => rfl) rfl ?_
    refine ex_go (S := (34, [(0, gx_r 383), (1, .inl 0), (2, .inl 0)], [gx_r 383, .inl 1, gx_r 399, .inl (σ 13)], t0, n, 0)) rfl (fun _ => rfl) rfl ?_
    refine ex_go (S := (35, [(0, gx_r 383), (1, .inl 0), (2, .inl 0)], [.inl 0, gx_r 383, .inl 1, gx_r 399, .inl (σ 13)], t0, n, 0)) rfl (fun _ => rfl) rfl ?_
    refine ex_go (S := (36, [(0, gx_r 383), (1, .inl 0), (2, .inl 0)], [.inl 0, .inl 0, gx_r 383, .inl 1, gx_r 399, .inl (σ 13)], t0, n, 0)) rfl (fun _ => rfl) rfl ?_
    obtain ⟨_, r24, rfl⟩ := pe_crewOf (d) n (c := 0) (w := 0) g0 (by first | decide | omega) (by first | decide | omega) (ks0)
    refine gx_call1 rfl rfl g0 rfl rfl r24 rfl ?_
    show en_ex _ _ _ _ (39, [(0, gx_r 383), (1, .inl 0), (2, .inl 0)], [.inl (w 3 0), .inl 1, gx_r 399, .inl (σ 13)], t0, n, 0) _
    refine ex_iadd rfl (by first | decide | omega) rfl ?_
    have k25 := (show ai_hv t0 399 (1 + (w 3 0)) = some (.inl (σ (1 + w 3 0))) from by have h9 := hσ (1 + w 3 0) (by first | decide | omega); rw [show 0 + (1 + w 3 0) = 1 + (w 3 0) by omega] at h9; exact h9)
    refine gx_ag (v := .inl (σ (1 + w 3 0))) (cb := fun c => Nat.beq c 0) rfl (fun _ => rfl) g0 rfl rfl k25 (by first | decide | omega) rfl ?_
    by_cases hc26 : σ 13 ≠ σ (1 + w 3 0)
    · refine gx_2t (c := .ne) rfl (by first | decide | omega) (by first | decide | omega) hc26 rfl ?_
      refine ex_go (S := (49, [(0, gx_r 383), (1, .inl 0), (2, .inl 0)], [.inl 0], t0, n, 0)) rfl (fun _ => rfl) rfl ?_
      refine ex_ret (r := (some (.inl 0), t0, n, 0)) rfl (fun _ => rfl) ?_
      exact ⟨_, rfl, 0, rfl, by decide, by rw [hml]; omega⟩
    · refine gx_2f (c := .ne) rfl (by first | decide | omega) (by first | decide | omega) hc26 rfl ?_
      refine ex_go (S := (45, [(0, gx_r 383), (1, .inl 0), (2, .inl 0)], [.inl 1], t0, n, 0)) rfl (fun _ => rfl) rfl ?_
      refine ex_go (S := (49, [(0, gx_r 383), (1, .inl 0), (2, .inl 0)], [.inl 1], t0, n, 0)) rfl (fun _ => rfl) rfl ?_
      refine ex_ret (r := (some (.inl 1), t0, n, 0)) rfl (fun _ => rfl) ?_
      exact ⟨_, rfl, 1, rfl, by decide, by rw [hml]; omega⟩
theorem sr_mayM0_1 (d n : Nat) {t0 : en_H} {w : Nat → Nat → Nat} {L : List Nat} {σ : Nat → Nat} (g0 : ai_HG ah_G t0) (hR : RW t0 w L) (hb : sbd σ) (hσ : ∀ j, j < 17 → ai_hv t0 399 (0 + j) = some (.inl (σ j))) (hc : 1 < w 0 4) : ∃ r, en_u (d + 2) 121 [gx_r 383, .inl 0, .inl 1] t0 n = some r ∧ ∃ v, r = (some (.inl v), t0, n, 0) ∧ v ≤ 1 ∧ (v = 1 ↔ mayM w σ 1) := by
  have hw := WS_of hR
  obtain ⟨hb1, ⟨hb7, hb8⟩, ⟨hb11, hb12⟩, ⟨hb13, hb14⟩, ⟨hb15, hb16⟩, hb0, hb9, hb10⟩ := hb
  have hT := hw.1.2.2.1
  have hK := hw.1.2.2.2.2.1
  obtain ⟨ks1, hs1, -⟩ := hR.2.2.2.1 1 (by first | decide | omega)
  have hp1 := hb1 (w 3 1) (by first | decide | omega)
  have hml : mayM w σ 1 ↔ (σ 12 = 1 ∧ σ 14 = σ (1 + w 3 1)) := Iff.rfl
  refine en_u_ex (d := d + 1) rfl ?_
  show en_ex _ _ _ _ (0, [(0, gx_r 383), (1, .inl 0), (2, .inl 1)], [], t0, n, 0) _
  refine ex_go (S := (1, [(0, gx_r 383), (1, .inl 0), (2, .inl 1)], [gx_r 383], t0, n, 0)) rfl (fun _ => rfl) rfl ?_
  refine gx_ref (c := 399) rfl g0 rfl rfl rfl rfl ?_
  refine ex_go (S := (5, [(0, gx_r 383), (1, .inl 0), (2, .inl 1)], [.inl 0, gx_r 399], t0, n, 0)) rfl (fun _ => rfl) rfl ?_
  refine ex_go (S := (7, [(0, gx_r 383), (1, .inl 0), (2, .inl 1)], [.inl 11, .inl 0, gx_r 399], t0, n, 0)) rfl (fun _ => rfl) rfl ?_
  refine ex_go (S := (8, [(0, gx_r 383), (1, .inl 0), (2, .inl 1)], [.inl 11, gx_r 399], t0, n, 0)) rfl (fun _ => rfl) rfl ?_
  refine ex_go (S := (9, [(0, gx_r 383), (1, .inl 0), (2, .inl 1)], [.inl 1, .inl 11, gx_r 399], t0, n, 0)) rfl (fun _ => rfl) rfl ?_
  refine ex_go (S := (10, [(0, gx_r 383), (1, .inl 0), (2, .inl 1)], [.inl 12, gx_r 399], t0, n, 0)) rfl (fun _ => rfl) rfl ?_
  have k21 : ai_hv t0 399 12 = some (.inl (σ 12)) := hσ 12 (by decide)
  refine gx_ag (v := .inl (σ 12)) (cb := fun c => Nat.beq c 0) rfl (fun _ => rfl) g0 rfl rfl k21 (by first | decide | omega) rfl ?_
  refine ex_go (S := (12, [(0, gx_r 383), (1, .inl 0), (2, .inl 1)], [.inl 1, .inl (σ 12)], t0, n, 0)) rfl (fun _ => rfl) rfl ?_
  by_cases hc22 : σ 12 ≠ 1
  · refine gx_2t (c := .ne) rfl (by first | decide | omega) (by first | decide | omega) hc22 rfl ?_
    refine ex_go (S := (49, [(0, gx_r 383), (1, .inl 0), (2, .inl 1)], [.inl 0], t0, n, 0)) rfl (fun _ => rfl) rfl ?_
    refine ex_ret (r := (some (.inl 0), t0, n, 0)) rfl (fun _ => rfl) ?_
    exact ⟨_, rfl, 0, rfl, by decide, by rw [hml]; omega⟩
  · refine gx_2f (c := .ne) rfl (by first | decide | omega) (by first | decide | omega) hc22 rfl ?_
    refine ex_go (S := (16, [(0, gx_r 383), (1, .inl 0), (2, .inl 1)], [gx_r 383], t0, n, 0)) rfl (fun _ => rfl) rfl ?_
    refine gx_ref (c := 399) rfl g0 rfl rfl rfl rfl ?_
    refine ex_go (S := (20, [(0, gx_r 383), (1, .inl 0), (2, .inl 1)], [.inl 0, gx_r 399], t0, n, 0)) rfl (fun _ => rfl) rfl ?_
    refine ex_go (S := (22, [(0, gx_r 383), (1, .inl 0), (2, .inl 1)], [.inl 13, .inl 0, gx_r 399], t0, n, 0)) rfl (fun _ => rfl) rfl ?_
    refine ex_go (S := (23, [(0, gx_r 383), (1, .inl 0), (2, .inl 1)], [.inl 13, gx_r 399], t0, n, 0)) rfl (fun _ => rfl) rfl ?_
    refine ex_go (S := (24, [(0, gx_r 383), (1, .inl 0), (2, .inl 1)], [.inl 1, .inl 13, gx_r 399], t0, n, 0)) rfl (fun _ => rfl) rfl ?_
    refine ex_go (S := (25, [(0, gx_r 383), (1, .inl 0), (2, .inl 1)], [.inl 14, gx_r 399], t0, n, 0)) rfl (fun _ => rfl) rfl ?_
    have k23 : ai_hv t0 399 14 = some (.inl (σ 14)) := hσ 14 (by decide)
    refine gx_ag (v := .inl (σ 14)) (cb := fun c => Nat.beq c 0) rfl (fun _ => rfl) g0 rfl rfl k23 (by first | decide | omega) rfl ?_
    refine ex_go (S := (27, [(0, gx_r 383), (1, .inl 0), (2, .inl 1)], [gx_r 383, .inl (σ 14)], t0, n, 0)) rfl (fun _ => rfl) rfl ?_
    refine gx_ref (c := 399) rfl g0 rfl rfl rfl rfl ?_
    refine ex_go (S := (31, [(0, gx_r 383), (1, .inl 0), (2, .inl 1)], [.inl 0, gx_r 399, .inl (σ 14)], t0, n, 0)) rfl (fun _ => rfl) rfl ?_
    refine ex_go (S := (32, [(0, gx_r 383), (1, .inl 0), (2, .inl 1)], [.inl 1, .inl 0, gx_r 399, .inl (σ 14)], t0, n, 0)) rfl (fun _ => rfl) rfl ?_
    refine ex_go (S := (33, [(0, gx_r 383), (1, .inl 0), (2, .inl 1)], [.inl 1, gx_r 399, .inl (σ 14)], t0, n, 0)) rfl (fun _ => rfl) rfl ?_
    refine ex_go (S := (34, [(0, gx_r 383), (1, .inl 0), (2, .inl 1)], [gx_r 383, .inl 1, gx_r 399, .inl (σ 14)], t0, n, 0)) rfl (fun _ => rfl) rfl ?_
    refine ex_go (S := (35, [(0, gx_r 383), (1, .inl 0), (2, .inl 1)], [.inl 1, gx_r 383, .inl 1, gx_r 399, .inl (σ 14)], t0, n, 0)) rfl (fun _ => rfl) rfl ?_
    refine ex_go (S := (36, [(0, gx_r 383), (1, .inl 0), (2, .inl 1)], [.inl 0, .inl 1, gx_r 383, .inl 1, gx_r 399, .inl (σ 14)], t0, n, 0)) rfl (fun _ => rfl) rfl ?_
    obtain ⟨_, r24, rfl⟩ := pe_crewOf (d) n (c := 1) (w := 0) g0 (by first | decide | omega) (by first | decide | omega) (ks1)
    refine gx_call1 rfl rfl g0 rfl rfl r24 rfl ?_
    show en_ex _ _ _ _ (39, [(0, gx_r 383), (1, .inl 0), (2, .inl 1)], [.inl (w 3 1), .inl 1, gx_r 399, .inl (σ 14)], t0, n, 0) _
    refine ex_iadd rfl (by first | decide | omega) rfl ?_
    have k25 := (show ai_hv t0 399 (1 + (w 3 1)) = some (.inl (σ (1 + w 3 1))) from by have h9 := hσ (1 + w 3 1) (by first | decide | omega); rw [show 0 + (1 + w 3 1) = 1 + (w 3 1) by omega] at h9; exact h9)
    refine gx_ag (v := .inl (σ (1 + w 3 1))) (cb := fun c => Nat.beq c 0) rfl (fun _ => rfl) g0 rfl rfl k25 (by first | decide | omega) rfl ?_
    by_cases hc26 : σ 14 ≠ σ (1 + w 3 1)
    · refine gx_2t (c := .ne) rfl (by first | decide | omega) (by first | decide | omega) hc26 rfl ?_
      refine ex_go (S := (49, [(0, gx_r 383), (1, .inl 0), (2, .inl 1)], [.inl 0], t0, n, 0)) rfl (fun _ => rfl) rfl ?_
      refine ex_ret (r := (some (.inl 0), t0, n, 0)) rfl (fun _ => rfl) ?_
      exact ⟨_, rfl, 0, rfl, by decide, by rw [hml]; omega⟩
    · refine gx_2f (c := .ne) rfl (by first | decide | omega) (by first | decide | omega) hc26 rfl ?_
      refine ex_go (S := (45, [(0, gx_r 383), (1, .inl 0), (2, .inl 1)], [.inl 1], t0, n, 0)) rfl (fun _ => rfl) rfl ?_
      refine ex_go (S := (49, [(0, gx_r 383), (1, .inl 0), (2, .inl 1)], [.inl 1], t0, n, 0)) rfl (fun _ => rfl) rfl ?_
      refine ex_ret (r := (some (.inl 1), t0, n, 0)) rfl (fun _ => rfl) ?_
      exact ⟨_, rfl, 1, rfl, by decide, by rw [hml]; omega⟩
end SSK
