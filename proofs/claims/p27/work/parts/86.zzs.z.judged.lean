section SSJ
set_option maxRecDepth 100000
/-- a line: what, who, how much -/
noncomputable def dok (w : Nat → Nat → Nat) (d : Nat × Nat × Nat) : Prop := (d.1 = 0 ∧ d.2.2 ≤ 30) ∨ (d.1 = 1 ∧ d.2.1 < w 0 4 ∧ d.2.2 < 64) ∨ (d.1 = 2 ∧ d.2.1 < w 0 4 ∧ d.2.2 ≤ 999) ∨ (d.1 = 3 ∧ d.2.1 < w 0 4)
noncomputable def dlc (w : Nat → Nat → Nat) (σ : Nat → Nat) (d : Nat × Nat × Nat) : Prop := d.1 = 0 ∨ (d.1 = 1 ∧ mayH w σ d.2.1 d.2.2) ∨ (d.1 = 2 ∧ mayL w σ d.2.1) ∨ (d.1 = 3 ∧ mayM w σ d.2.1)
noncomputable def dld (w : Nat → Nat → Nat) (L : List Nat) (σ : Nat → Nat) (d : Nat × Nat × Nat) : Nat → Nat := if d.1 = 0 then itp w L d.2.2 σ else if d.1 = 1 then sgH σ d.2.1 d.2.2 else if d.1 = 2 then sgL σ d.2.1 d.2.2 else sgM' σ d.2.1
noncomputable def dls (w : Nat → Nat → Nat) (L : List Nat) (σ : Nat → Nat) (d : Nat × Nat × Nat) : Nat → Nat := cif (dlc w σ d) (dld w L σ d) σ
noncomputable def sqn (w : Nat → Nat → Nat) (L : List Nat) (δ : Nat → Nat × Nat × Nat) (σ : Nat → Nat) : Nat → Nat → Nat
  | 0 => σ
  | k + 1 => dls w L (sqn w L δ σ k) (δ k)
noncomputable def wrn (w : Nat → Nat → Nat) (L : List Nat) (δ : Nat → Nat × Nat × Nat) (σ : Nat → Nat) : Nat → Nat
  | 0 => 4294967295
  | k + 1 => cif (¬ dlc w (sqn w L δ σ k) (δ k) ∧ wrn w L δ σ k = 4294967295) k (wrn w L δ σ k)
section
variable {w : Nat → Nat → Nat} {L : List Nat} {σ : Nat → Nat} {d : Nat × Nat × Nat} {δ : Nat → Nat × Nat × Nat}
theorem dls_n (h : ¬ dlc w σ d) : dls w L σ d = σ := cif_f h
theorem dls_0 (h : d.1 = 0) : dls w L σ d = itp w L d.2.2 σ := (cif_t (Or.inl h)).trans (if_pos h)
theorem dls_1 (h : d.1 = 1) (m : mayH w σ d.2.1 d.2.2) : dls w L σ d = sgH σ d.2.1 d.2.2 := (cif_t (Or.inr (Or.inl ⟨h, m⟩))).trans ((if_neg (by first | decide | omega)).trans (if_pos h))
theorem dls_2 (h : d.1 = 2) (m : mayL w σ d.2.1) : dls w L σ d = sgL σ d.2.1 d.2.2 := (cif_t (Or.inr (Or.inr (Or.inl ⟨h, m⟩)))).trans ((if_neg (by first | decide | omega)).trans ((if_neg (by first | decide | omega)).trans (if_pos h)))
theorem dls_3 (h : d.1 = 3) (m : mayM w σ d.2.1) : dls w L σ d = sgM' σ d.2.1 := (cif_t (Or.inr (Or.inr (Or.inr ⟨h, m⟩)))).trans ((if_neg (by first | decide | omega)).trans ((if_neg (by first | decide | omega)).trans (if_neg (by first | decide | omega))))
theorem dlc_1 (h : d.1 = 1) : dlc w σ d ↔ mayH w σ d.2.1 d.2.2 := ⟨fun z => by
  rcases z with z | ⟨-, z⟩ | ⟨z, -⟩ | ⟨z, -⟩
  · omega
  · exact z
  · omega
  · omega, fun z => Or.inr (Or.inl ⟨h, z⟩)⟩
theorem dlc_2 (h : d.1 = 2) : dlc w σ d ↔ mayL w σ d.2.1 := ⟨fun z => by
  rcases z with z | ⟨z, -⟩ | ⟨-, z⟩ | ⟨z, -⟩
  · omega
  · omega
  · exact z
  · omega, fun z => Or.inr (Or.inr (Or.inl ⟨h, z⟩))⟩
theorem dlc_3 (h : d.1 = 3) : dlc w σ d ↔ mayM w σ d.2.1 := ⟨fun z => by
  rcases z with z | ⟨z, -⟩ | ⟨z, -⟩ | ⟨-, z⟩
  · omega
  · omega
  · omega
  · exact z, fun z => Or.inr (Or.inr (Or.inr ⟨h, z⟩))⟩
theorem wrn_k {k : Nat} (h : ¬ dlc w (sqn w L δ σ k) (δ k)) (h2 : wrn w L δ σ k = 4294967295) : wrn w L δ σ (k + 1) = k := cif_t ⟨h, h2⟩
theorem wrn_s {k : Nat} (h : dlc w (sqn w L δ σ k) (δ k) ∨ wrn w L δ σ k ≠ 4294967295) : wrn w L δ σ (k + 1) = wrn w L δ σ k := cif_f (fun z => by
  rcases h with h | h
  · exact z.1 h
  · exact h z.2)
theorem wrn_bd : ∀ k, wrn w L δ σ k = 4294967295 ∨ wrn w L δ σ k < k
  | 0 => Or.inl rfl
  | k + 1 => by
    by_cases c : ¬ dlc w (sqn w L δ σ k) (δ k) ∧ wrn w L δ σ k = 4294967295
    · rw [wrn_k c.1 c.2]; omega
    · have e : wrn w L δ σ (k + 1) = wrn w L δ σ k := cif_f c
      rw [e]
      have := wrn_bd k
      omega
/-- what bounds how all stands -/
noncomputable def jbd (σ : Nat → Nat) (B : Nat) : Prop := sbd σ ∧ σ 7 + σ 8 ≤ 19998 ∧ σ 0 ≤ B
theorem stp_le7 {c : Nat} (h : c < 2) : stp w L σ (7 + c) ≤ σ (7 + c) := by
  rw [stp_bi h]
  split
  · exact Nat.sub_le _ _
  · exact Nat.le_refl _
theorem itp_sum : ∀ k, itp w L k σ 7 + itp w L k σ 8 ≤ σ 7 + σ 8
  | 0 => Nat.le_refl _
  | k + 1 => by
    have h := itp_sum k
    have h7 : stp w L (itp w L k σ) 7 ≤ itp w L k σ 7 := stp_le7 (c := 0) (by decide)
    have h8 : stp w L (itp w L k σ) 8 ≤ itp w L k σ 8 := stp_le7 (c := 1) (by decide)
    show stp w L (itp w L k σ) 7 + stp w L (itp w L k σ) 8 ≤ _
    omega
theorem jbd_itp {B k : Nat} (hw : WS w) (h : jbd σ B) (hB : B ≤ 1000) (hk : k ≤ 30) : jbd (itp w L k σ) (B + 30) :=
  ⟨sbd_itp hw h.1 k, Nat.le_trans (itp_sum k) h.2.1, by rw [itp_0 h.2.2 (by first | decide | omega) k hk]; have := h.2.2; omega⟩
theorem sgH_q {c x i : Nat} (hi : i < 6) : sgH σ c x (1 + i) = σ (1 + i) := by
  unfold sgH
  rw [if_neg (by first | decide | omega), if_neg (by first | decide | omega), if_neg (by first | decide | omega)]
theorem sgL_q {c x i : Nat} (h : c ≤ 1) (hi : i < 6) : sgL σ c x (1 + i) = σ (1 + i) := by
  unfold sgL
  rw [if_neg (by first | decide | omega), if_neg (by first | decide | omega), if_neg (by first | decide | omega), if_neg (by first | decide | omega)]
theorem sgM_q {c i : Nat} (hi : i < 6) : sgM' σ c (1 + i) = σ (1 + i) := by
  unfold sgM'
  rw [if_neg (by first | decide | omega)]
theorem lnv_le {c v : Nat} : lnv σ c v ≤ σ (7 + c) := Nat.min_le_right _ _
theorem jbd_sgH {B c x : Nat} (hc : c ≤ 1) (hx : x < 64) (h : jbd σ B) : jbd (sgH σ c x) B := by
  obtain ⟨⟨h1, ⟨h7, h8⟩, ⟨h11, h12⟩, ⟨h13, h14⟩, ⟨h15, h16⟩, h0, h9, h10⟩, hs, hB⟩ := h
  rcases (show c = 0 ∨ c = 1 by omega) with rfl | rfl
  · exact ⟨⟨fun i hi => by rw [sgH_q hi]; exact h1 i hi, ⟨h7, h8⟩, ⟨Nat.le_refl 1, h12⟩, ⟨Nat.le_of_lt_succ hx, h14⟩, ⟨Nat.le_refl 1, h16⟩, h0, h9, h10⟩, hs, hB⟩
  · exact ⟨⟨fun i hi => by rw [sgH_q hi]; exact h1 i hi, ⟨h7, h8⟩, ⟨h11, Nat.le_refl 1⟩, ⟨h13, Nat.le_of_lt_succ hx⟩, ⟨h15, Nat.le_refl 1⟩, h0, h9, h10⟩, hs, hB⟩
theorem jbd_sgL {B c x : Nat} (hc : c ≤ 1) (h : jbd σ B) : jbd (sgL σ c x) B := by
  obtain ⟨⟨h1, ⟨h7, h8⟩, ⟨h11, h12⟩, ⟨h13, h14⟩, ⟨h15, h16⟩, h0, h9, h10⟩, hs, hB⟩ := h
  rcases (show c = 0 ∨ c = 1 by omega) with rfl | rfl
  · have hl : lnv σ 0 x ≤ σ 7 := lnv_le
    refine ⟨⟨fun i hi => by rw [sgL_q (by decide) hi]; exact h1 i hi, ⟨?_, ?_⟩, ⟨h11, h12⟩, ⟨h13, h14⟩, ⟨h15, h16⟩, h0, ?_, ?_⟩, ?_, hB⟩
    · show σ 7 - lnv σ 0 x ≤ 19998; omega
    · show σ 8 + lnv σ 0 x ≤ 19998; omega
    · show en_wrap (σ 9 + lnv σ 0 x) < 4294967296; unfold en_wrap; omega
    · show isb (σ 10) (lnv σ 0 x) < 4294967296; exact isb_lt
    · show σ 7 - lnv σ 0 x + (σ 8 + lnv σ 0 x) ≤ 19998; omega
  · have hl : lnv σ 1 x ≤ σ 8 := lnv_le
    refine ⟨⟨fun i hi => by rw [sgL_q (by decide) hi]; exact h1 i hi, ⟨?_, ?_⟩, ⟨h11, h12⟩, ⟨h13, h14⟩, ⟨h15, h16⟩, h0, ?_, ?_⟩, ?_, hB⟩
    · show σ 7 + lnv σ 1 x ≤ 19998; omega
    · show σ 8 - lnv σ 1 x ≤ 19998; omega
    · show isb (σ 9) (lnv σ 1 x) < 4294967296; exact isb_lt
    · show en_wrap (σ 10 + lnv σ 1 x) < 4294967296; unfold en_wrap; omega
    · show σ 7 + lnv σ 1 x + (σ 8 - lnv σ 1 x) ≤ 19998; omega
theorem jbd_sgM {B c : Nat} (hc : c ≤ 1) (h : jbd σ B) : jbd (sgM' σ c) B := by
  obtain ⟨⟨h1, ⟨h7, h8⟩, ⟨h11, h12⟩, ⟨h13, h14⟩, ⟨h15, h16⟩, h0, h9, h10⟩, hs, hB⟩ := h
  rcases (show c = 0 ∨ c = 1 by omega) with rfl | rfl
  · exact ⟨⟨fun i hi => by rw [sgM_q hi]; exact h1 i hi, ⟨h7, h8⟩, ⟨Nat.zero_le 1, h12⟩, ⟨h13, h14⟩, ⟨h15, h16⟩, h0, h9, h10⟩, hs, hB⟩
  · exact ⟨⟨fun i hi => by rw [sgM_q hi]; exact h1 i hi, ⟨h7, h8⟩, ⟨h11, Nat.zero_le 1⟩, ⟨h13, h14⟩, ⟨h15, h16⟩, h0, h9, h10⟩, hs, hB⟩
theorem jbd_up {B B' : Nat} (h : jbd σ B) (hB : B ≤ B') : jbd σ B' := ⟨h.1, h.2.1, Nat.le_trans h.2.2 hB⟩
theorem jbd_dls {B : Nat} (hw : WS w) (hd : dok w d) (h : jbd σ B) (hB : B ≤ 1000) : jbd (dls w L σ d) (B + 30) := by
  have hK := hw.1.2.2.2.2.1
  by_cases c : dlc w σ d
  · rcases hd with ⟨e, x⟩ | ⟨e, x, y⟩ | ⟨e, x, y⟩ | ⟨e, x⟩
    · rw [dls_0 e]; exact jbd_itp hw h hB x
    · rw [dls_1 e ((dlc_1 e).mp c)]; exact jbd_up (jbd_sgH (by first | decide | omega) y h) (by first | decide | omega)
    · rw [dls_2 e ((dlc_2 e).mp c)]; exact jbd_up (jbd_sgL (by first | decide | omega) h) (by first | decide | omega)
    · rw [dls_3 e ((dlc_3 e).mp c)]; exact jbd_up (jbd_sgM (by first | decide | omega) h) (by first | decide | omega)
  · rw [dls_n c]; exact jbd_up h (by first | decide | omega)
theorem jbd_sqn {nl : Nat} (hw : WS w) (hd : ∀ k, k < nl → dok w (δ k)) (hn : nl ≤ 24) (h : jbd σ 0) : ∀ k, k ≤ nl → jbd (sqn w L δ σ k) (30 * k)
  | 0, _ => h
  | k + 1, hk => by
    have h9 := jbd_dls (L := L) hw (hd k (by first | decide | omega)) (jbd_sqn hw hd hn h k (by first | decide | omega)) (show 30 * k ≤ 1000 by omega)
    rw [show 30 * (k + 1) = 30 * k + 30 by omega]
    exact h9
/-- the biscuit of all crews -/
noncomputable def bsm (σ : Nat → Nat) : Nat → Nat
  | 0 => 0
  | c + 1 => bsm σ c + σ (7 + c)
end
/-- the reference's row tells the line d -/
noncomputable def LRd (t : en_H) (w : Nat → Nat → Nat) (d : Nat × Nat × Nat) (i : Nat) : Prop :=
  ((d.1 = 0 ∧ d.2.2 ≤ 30) ∧ ai_hv t 396 i = some (.inl 0) ∧ ai_hv t 396 (i + 1) = some (.inl d.2.2)) ∨
  ((d.1 = 1 ∧ d.2.1 < w 0 4) ∧ ∃ x y, (x < 8 ∧ y < 8 ∧ 8 * y + x = d.2.2) ∧ ai_hv t 396 i = some (.inl 1) ∧ ai_hv t 396 (i + 1) = some (.inl d.2.1) ∧ ai_hv t 396 (i + 2) = some (.inl x) ∧ ai_hv t 396 (i + 3) = some (.inl y)) ∨
  ((d.1 = 2 ∧ d.2.1 < w 0 4 ∧ d.2.2 ≤ 999) ∧ ai_hv t 396 i = some (.inl 2) ∧ ai_hv t 396 (i + 1) = some (.inl d.2.1) ∧ ai_hv t 396 (i + 2) = some (.inl d.2.2)) ∨
  ((d.1 = 3 ∧ d.2.1 < w 0 4) ∧ ai_hv t 396 i = some (.inl 3) ∧ ai_hv t 396 (i + 1) = some (.inl d.2.1))
theorem LRd_keep {t t' : en_H} {w : Nat → Nat → Nat} {d : Nat × Nat × Nat} {i : Nat} (h : LRd t w d i) (e : ∀ j, ai_hv t' 396 j = ai_hv t 396 j) : LRd t' w d i := by
  rcases h with ⟨h, h1, h2⟩ | ⟨h, x, y, h3, h1, h2, h4, h5⟩ | ⟨h, h1, h2, h3⟩ | ⟨h, h1, h2⟩
  · exact Or.inl ⟨h, (e _).trans h1, (e _).trans h2⟩
  · exact Or.inr (Or.inl ⟨h, x, y, h3, (e _).trans h1, (e _).trans h2, (e _).trans h4, (e _).trans h5⟩)
  · exact Or.inr (Or.inr (Or.inl ⟨h, (e _).trans h1, (e _).trans h2, (e _).trans h3⟩))
  · exact Or.inr (Or.inr (Or.inr ⟨h, (e _).trans h1, (e _).trans h2⟩))
theorem jd_l (d n : Nat) {tb : en_H} {w : Nat → Nat → Nat} {L : List Nat} {σ : Nat → Nat} {x : Nat} {Q : en_O → Prop} (hR : RW tb w L) (hx : x ≤ 30) (hQ : ∀ cl t1, ai_HG ah_G t1 → (∀ c i, ¬ ((c = 399 ∧ 945 ≤ i ∧ i < 962) ∨ (c = 397 ∧ i < 3) ∨ c = 398 ∨ c = 401 ∨ c = 402) → ai_hv t1 c i = ai_hv tb c i) → (∀ j, j < 17 → ai_hv t1 399 (945 + j) = some (.inl (itp w L x σ j))) → en_ld cl 5 = some (.inl 1) → en_ex none (en_u (d + 5)) (en_code 126) (fun _ => false) (204, cl, [], t1, n, 0) Q) : ∀ j k cl t0, k + j = x → ai_HG ah_G t0 → (∀ c i, ¬ ((c = 399 ∧ 945 ≤ i ∧ i < 962) ∨ (c = 397 ∧ i < 3) ∨ c = 398 ∨ c = 401 ∨ c = 402) → ai_hv t0 c i = ai_hv tb c i) → (∀ j, j < 17 → ai_hv t0 399 (945 + j) = some (.inl (itp w L k σ j))) → en_ld cl 0 = some (gx_r 383) → en_ld cl 3 = some (.inl x) → en_ld cl 5 = some (.inl 1) → en_ld cl 6 = some (.inl k) → en_ex none (en_u (d + 5)) (en_code 126) (fun _ => false) (112, cl, [], t0, n, 0) Q := by
  intro j
  induction j with
  | zero =>
    intro k cl t0 hk g0 e0 hσ l0 l3 l5 l6
    have hk : k = x := by omega
    subst hk
    refine gx_ld (i := 6) (d := 0) (v := .inl k) rfl (fun _ => rfl) l6 rfl rfl ?_
    refine gx_ld (i := 3) (d := 0) (v := .inl k) rfl (fun _ => rfl) l3 rfl rfl ?_
    refine gx_2t (c := .ge) rfl (by first | decide | omega) (by first | decide | omega) (show k ≤ k from by omega) rfl ?_
    refine ex_go (S := (204, cl, [], t0, n, 0)) rfl (fun _ => rfl) rfl ?_
    exact hQ _ _ g0 e0 hσ l5
  | succ j ih =>
    intro k cl t0 hk g0 e0 hσ l0 l3 l5 l6
    refine gx_ld (i := 6) (d := 0) (v := .inl k) rfl (fun _ => rfl) l6 rfl rfl ?_
    refine gx_ld (i := 3) (d := 0) (v := .inl x) rfl (fun _ => rfl) l3 rfl rfl ?_
    refine gx_2f (c := .ge) rfl (by first | decide | omega) (by first | decide | omega) (show ¬ (x ≤ k) from by omega) rfl ?_
    refine gx_ld (i := 0) (d := 2) (v := gx_r 383) rfl (fun _ => rfl) l0 rfl rfl ?_
    refine ex_go (S := (122, cl, [.inl 945, gx_r 383], t0, n, 0)) rfl (fun _ => rfl) rfl ?_
    obtain ⟨_, r121, t121, rfl, g121, e121, y121⟩ := sr_passes945 d n g0 (RW_keep hR (fun i hi => e0 389 i (by first | decide | omega)) (fun c i hc _ => e0 c i (by first | decide | omega))) hσ
    refine gx_call1 rfl rfl g0 rfl rfl r121 rfl ?_
    show en_ex _ _ _ _ (125, cl, [.inl (eaten w L (itp w L k σ))], t121, n, 0) _
    refine ex_go (S := (126, cl, [], t121, n, 0)) rfl (fun _ => rfl) rfl ?_
    refine gx_incS (i := 6) (a := k) (x := 1) rfl (fun _ => rfl) l6 (by first | decide | omega) rfl (fun l22 hl22 ml22 => ?_)
    have l22_0 : en_ld l22 0 = some (gx_r 383) := ml22 0 _ l0 rfl
    have l22_3 : en_ld l22 3 = some (.inl x) := ml22 3 _ l3 rfl
    have l22_5 : en_ld l22 5 = some (.inl 1) := ml22 5 _ l5 rfl
    refine ex_go (S := (112, l22, [], t121, n, 0)) rfl (fun _ => rfl) rfl ?_
    exact ih (k + 1) _ _ (by first | decide | omega) g121 (fun c i h => (e121 c i (by first | decide | omega)).trans (e0 c i (by first | decide | omega))) y121 l22_0 l22_3 l22_5 hl22
theorem sr_does (d n : Nat) {t0 : en_H} {w : Nat → Nat → Nat} {L : List Nat} {σ : Nat → Nat} {d9 : Nat × Nat × Nat} {i B : Nat} (g0 : ai_HG ah_G t0) (hR : RW t0 w L) (hσ : ∀ j, j < 17 → ai_hv t0 399 (945 + j) = some (.inl (σ j))) (hj : jbd σ B) (hB : B ≤ 1000) (hi : 1 ≤ i ∧ i + 3 < 210) (hr : LRd t0 w d9 i) : ∃ r, en_u (d + 6) 126 [gx_r 383, .inl i] t0 n = some r ∧ ∃ v t', r = (some (.inl v), t', n, 0) ∧ ai_HG ah_G t' ∧ (∀ c i, ¬ ((c = 399 ∧ 945 ≤ i ∧ i < 962) ∨ (c = 397 ∧ i < 3) ∨ c = 398 ∨ c = 401 ∨ c = 402) → ai_hv t' c i = ai_hv t0 c i) ∧ (∀ j, j < 17 → ai_hv t' 399 (945 + j) = some (.inl (dls w L σ d9 j))) ∧ ((dlc w σ d9 ∧ v = 1) ∨ (¬ dlc w σ d9 ∧ v = 0)) := by
  have hK := hR.2.1.2.2.2.2.1
  obtain ⟨hb, hsum, hs0⟩ := hj
  obtain ⟨m2, k2, b2⟩ := gx_any (c := 396) (i := i + 2) (g := ah_396) g0 rfl (Nat.ble_eq_true_of_le (show i + 2 + 1 ≤ 210 by omega)) ((gx_run2 (show 1 ≤ i + 2 by omega)).trans (gx_run1 (show i + 2 < 210 by omega)))
  obtain ⟨m3, k3, b3⟩ := gx_any (c := 396) (i := i + 3) (g := ah_396) g0 rfl (Nat.ble_eq_true_of_le (show i + 3 + 1 ≤ 210 by omega)) ((gx_run2 (show 1 ≤ i + 3 by omega)).trans (gx_run1 (show i + 3 < 210 by omega)))
  rcases hr with ⟨⟨hd, hv⟩, r0, r1⟩ | ⟨⟨hd, hc9⟩, x9, y9, ⟨hx9, hy9, hxy⟩, r0, r1, r2, r3⟩ | ⟨⟨hd, hc9, hv⟩, r0, r1, r2⟩ | ⟨⟨hd, hc9⟩, r0, r1⟩
  · refine en_u_ex (d := d + 5) rfl ?_
    show en_ex _ _ _ _ (0, [(0, gx_r 383), (1, .inl i)], [], t0, n, 0) _
    refine ex_go (S := (1, [(0, gx_r 383), (1, .inl i)], [gx_r 383], t0, n, 0)) rfl (fun _ => rfl) rfl ?_
    refine gx_ref (c := 396) rfl g0 rfl rfl rfl rfl ?_
    refine ex_go (S := (5, [(0, gx_r 383), (1, .inl i)], [.inl i, gx_r 396], t0, n, 0)) rfl (fun _ => rfl) rfl ?_
    refine gx_ag (v := .inl 0) (cb := fun c => Nat.beq c 0) rfl (fun _ => rfl) g0 rfl rfl r0 (by first | decide | omega) rfl ?_
    refine ex_go (S := (7, [(2, .inl 0), (0, gx_r 383), (1, .inl i)], [], t0, n, 0)) rfl (fun _ => rfl) rfl ?_
    refine ex_go (S := (8, [(2, .inl 0), (0, gx_r 383), (1, .inl i)], [gx_r 383], t0, n, 0)) rfl (fun _ => rfl) rfl ?_
    refine gx_ref (c := 396) rfl g0 rfl rfl rfl rfl ?_
    refine ex_go (S := (12, [(2, .inl 0), (0, gx_r 383), (1, .inl i)], [.inl i, gx_r 396], t0, n, 0)) rfl (fun _ => rfl) rfl ?_
    refine ex_go (S := (13, [(2, .inl 0), (0, gx_r 383), (1, .inl i)], [.inl 1, .inl i, gx_r 396], t0, n, 0)) rfl (fun _ => rfl) rfl ?_
    refine ex_iadd rfl (by first | decide | omega) rfl ?_
    refine gx_ag (v := .inl d9.2.2) (cb := fun c => Nat.beq c 0) rfl (fun _ => rfl) g0 rfl rfl r1 (by first | decide | omega) rfl ?_
    refine ex_go (S := (16, [(3, .inl d9.2.2), (2, .inl 0), (0, gx_r 383), (1, .inl i)], [], t0, n, 0)) rfl (fun _ => rfl) rfl ?_
    refine ex_go (S := (18, [(3, .inl d9.2.2), (2, .inl 0), (0, gx_r 383), (1, .inl i)], [.inl 8], t0, n, 0)) rfl (fun _ => rfl) rfl ?_
    refine ex_go (S := (19, [(3, .inl d9.2.2), (2, .inl 0), (0, gx_r 383), (1, .inl i)], [gx_r 383, .inl 8], t0, n, 0)) rfl (fun _ => rfl) rfl ?_
    refine gx_ref (c := 396) rfl g0 rfl rfl rfl rfl ?_
    refine ex_go (S := (23, [(3, .inl d9.2.2), (2, .inl 0), (0, gx_r 383), (1, .inl i)], [.inl i, gx_r 396, .inl 8], t0, n, 0)) rfl (fun _ => rfl) rfl ?_
    refine ex_go (S := (24, [(3, .inl d9.2.2), (2, .inl 0), (0, gx_r 383), (1, .inl i)], [.inl 3, .inl i, gx_r 396, .inl 8], t0, n, 0)) rfl (fun _ => rfl) rfl ?_
    refine ex_iadd rfl (by first | decide | omega) rfl ?_
    refine gx_ag (v := .inl m3) (cb := fun c => Nat.beq c 0) rfl (fun _ => rfl) g0 rfl rfl k3 (by first | decide | omega) rfl ?_
    refine gx_imulx rfl rfl ?_
    refine ex_go (S := (28, [(3, .inl d9.2.2), (2, .inl 0), (0, gx_r 383), (1, .inl i)], [gx_r 383, .inl (en_wrap (8 * m3))], t0, n, 0)) rfl (fun _ => rfl) rfl ?_
    refine gx_ref (c := 396) rfl g0 rfl rfl rfl rfl ?_
    refine ex_go (S := (32, [(3, .inl d9.2.2), (2, .inl 0), (0, gx_r 383), (1, .inl i)], [.inl i, gx_r 396, .inl (en_wrap (8 * m3))], t0, n, 0)) rfl (fun _ => rfl) rfl ?_
    refine ex_go (S := (33, [(3, .inl d9.2.2), (2, .inl 0), (0, gx_r 383), (1, .inl i)], [.inl 2, .inl i, gx_r 396, .inl (en_wrap (8 * m3))], t0, n, 0)) rfl (fun _ => rfl) rfl ?_
    refine ex_iadd rfl (by first | decide | omega) rfl ?_
    refine gx_ag (v := .inl m2) (cb := fun c => Nat.beq c 0) rfl (fun _ => rfl) g0 rfl rfl k2 (by first | decide | omega) rfl ?_
    refine gx_iaddx rfl rfl ?_
    refine ex_go (S := (38, [(4, .inl (en_wrap ((en_wrap (8 * m3)) + m2))), (3, .inl d9.2.2), (2, .inl 0), (0, gx_r 383), (1, .inl i)], [], t0, n, 0)) rfl (fun _ => rfl) rfl ?_
    refine ex_go (S := (39, [(4, .inl (en_wrap ((en_wrap (8 * m3)) + m2))), (3, .inl d9.2.2), (2, .inl 0), (0, gx_r 383), (1, .inl i)], [.inl 0], t0, n, 0)) rfl (fun _ => rfl) rfl ?_
    refine ex_go (S := (93, [(4, .inl (en_wrap ((en_wrap (8 * m3)) + m2))), (3, .inl d9.2.2), (2, .inl 0), (0, gx_r 383), (1, .inl i)], [], t0, n, 0)) rfl (fun _ => rfl) rfl ?_
    refine ex_go (S := (94, [(4, .inl (en_wrap ((en_wrap (8 * m3)) + m2))), (3, .inl d9.2.2), (2, .inl 0), (0, gx_r 383), (1, .inl i)], [.inl 1], t0, n, 0)) rfl (fun _ => rfl) rfl ?_
    refine ex_go (S := (98, [(4, .inl (en_wrap ((en_wrap (8 * m3)) + m2))), (3, .inl d9.2.2), (2, .inl 0), (0, gx_r 383), (1, .inl i)], [.inl 1], t0, n, 0)) rfl (fun _ => rfl) rfl ?_
    refine ex_go (S := (100, [(5, .inl 1), (4, .inl (en_wrap ((en_wrap (8 * m3)) + m2))), (3, .inl d9.2.2), (2, .inl 0), (0, gx_r 383), (1, .inl i)], [], t0, n, 0)) rfl (fun _ => rfl) rfl ?_
    refine ex_go (S := (102, [(5, .inl 1), (4, .inl (en_wrap ((en_wrap (8 * m3)) + m2))), (3, .inl d9.2.2), (2, .inl 0), (0, gx_r 383), (1, .inl i)], [.inl 1], t0, n, 0)) rfl (fun _ => rfl) rfl ?_
    refine ex_go (S := (105, [(5, .inl 1), (4, .inl (en_wrap ((en_wrap (8 * m3)) + m2))), (3, .inl d9.2.2), (2, .inl 0), (0, gx_r 383), (1, .inl i)], [], t0, n, 0)) rfl (fun _ => rfl) rfl ?_
    refine ex_go (S := (106, [(5, .inl 1), (4, .inl (en_wrap ((en_wrap (8 * m3)) + m2))), (3, .inl d9.2.2), (2, .inl 0), (0, gx_r 383), (1, .inl i)], [.inl 0], t0, n, 0)) rfl (fun _ => rfl) rfl ?_
    refine ex_go (S := (109, [(5, .inl 1), (4, .inl (en_wrap ((en_wrap (8 * m3)) + m2))), (3, .inl d9.2.2), (2, .inl 0), (0, gx_r 383), (1, .inl i)], [], t0, n, 0)) rfl (fun _ => rfl) rfl ?_
    refine ex_go (S := (110, [(5, .inl 1), (4, .inl (en_wrap ((en_wrap (8 * m3)) + m2))), (3, .inl d9.2.2), (2, .inl 0), (0, gx_r 383), (1, .inl i)], [.inl 0], t0, n, 0)) rfl (fun _ => rfl) rfl ?_
    refine ex_go (S := (112, [(6, .inl 0), (5, .inl 1), (4, .inl (en_wrap ((en_wrap (8 * m3)) + m2))), (3, .inl d9.2.2), (2, .inl 0), (0, gx_r 383), (1, .inl i)], [], t0, n, 0)) rfl (fun _ => rfl) rfl ?_
    refine jd_l d n (tb := t0) (x := d9.2.2) hR hv (fun cl t1 g1 e1 y1 l5 => ?_) d9.2.2 0 _ _ (by first | decide | omega) g0 (fun c i h => rfl) (fun j hj => hσ j hj) rfl rfl rfl rfl
    refine gx_ld (i := 5) (d := 0) (v := .inl 1) rfl (fun _ => rfl) l5 rfl rfl ?_
    refine ex_ret (r := (some (.inl 1), t1, n, 0)) rfl (fun _ => rfl) ?_
    exact ⟨_, rfl, 1, t1, rfl, g1, e1, (fun j hj => by rw [dls_0 hd]; exact y1 j hj), Or.inl ⟨Or.inl hd, rfl⟩⟩
  · rcases (show d9.2.1 = 0 ∨ d9.2.1 = 1 by omega) with hcr | hcr <;> rw [hcr] at r1 hc9
    · refine en_u_ex (d := d + 5) rfl ?_
      show en_ex _ _ _ _ (0, [(0, gx_r 383), (1, .inl i)], [], t0, n, 0) _
      refine ex_go (S := (1, [(0, gx_r 383), (1, .inl i)], [gx_r 383], t0, n, 0)) rfl (fun _ => rfl) rfl ?_
      refine gx_ref (c := 396) rfl g0 rfl rfl rfl rfl ?_
      refine ex_go (S := (5, [(0, gx_r 383), (1, .inl i)], [.inl i, gx_r 396], t0, n, 0)) rfl (fun _ => rfl) rfl ?_
      refine gx_ag (v := .inl 1) (cb := fun c => Nat.beq c 0) rfl (fun _ => rfl) g0 rfl rfl r0 (by first | decide | omega) rfl ?_
      refine ex_go (S := (7, [(2, .inl 1), (0, gx_r 383), (1, .inl i)], [], t0, n, 0)) rfl (fun _ => rfl) rfl ?_
      refine ex_go (S := (8, [(2, .inl 1), (0, gx_r 383), (1, .inl i)], [gx_r 383], t0, n, 0)) rfl (fun _ => rfl) rfl ?_
      refine gx_ref (c := 396) rfl g0 rfl rfl rfl rfl ?_
      refine ex_go (S := (12, [(2, .inl 1), (0, gx_r 383), (1, .inl i)], [.inl i, gx_r 396], t0, n, 0)) rfl (fun _ => rfl) rfl ?_
      refine ex_go (S := (13, [(2, .inl 1), (0, gx_r 383), (1, .inl i)], [.inl 1, .inl i, gx_r 396], t0, n, 0)) rfl (fun _ => rfl) rfl ?_
      refine ex_iadd rfl (by first | decide | omega) rfl ?_
      refine gx_ag (v := .inl 0) (cb := fun c => Nat.beq c 0) rfl (fun _ => rfl) g0 rfl rfl r1 (by first | decide | omega) rfl ?_
      refine ex_go (S := (16, [(3, .inl 0), (2, .inl 1), (0, gx_r 383), (1, .inl i)], [], t0, n, 0)) rfl (fun _ => rfl) rfl ?_
      refine ex_go (S := (18, [(3, .inl 0), (2, .inl 1), (0, gx_r 383), (1, .inl i)], [.inl 8], t0, n, 0)) rfl (fun _ => rfl) rfl ?_
      refine ex_go (S := (19, [(3, .inl 0), (2, .inl 1), (0, gx_r 383), (1, .inl i)], [gx_r 383, .inl 8], t0, n, 0)) rfl (fun _ => rfl) rfl ?_
      refine gx_ref (c := 396) rfl g0 rfl rfl rfl rfl ?_
      refine ex_go (S := (23, [(3, .inl 0), (2, .inl 1), (0, gx_r 383), (1, .inl i)], [.inl i, gx_r 396, .inl 8], t0, n, 0)) rfl (fun _ => rfl) rfl ?_
      refine ex_go (S := (24, [(3, .inl 0), (2, .inl 1), (0, gx_r 383), (1, .inl i)], [.inl 3, .inl i, gx_r 396, .inl 8], t0, n, 0)) rfl (fun _ => rfl) rfl ?_
      refine ex_iadd rfl (by first | decide | omega) rfl ?_
      refine gx_ag (v := .inl y9) (cb := fun c => Nat.beq c 0) rfl (fun _ => rfl) g0 rfl rfl r3 (by first | decide | omega) rfl ?_
      refine gx_imul rfl (by first | decide | omega) rfl ?_
      refine ex_go (S := (28, [(3, .inl 0), (2, .inl 1), (0, gx_r 383), (1, .inl i)], [gx_r 383, .inl (8 * y9)], t0, n, 0)) rfl (fun _ => rfl) rfl ?_
      refine gx_ref (c := 396) rfl g0 rfl rfl rfl rfl ?_
      refine ex_go (S := (32, [(3, .inl 0), (2, .inl 1), (0, gx_r 383), (1, .inl i)], [.inl i, gx_r 396, .inl (8 * y9)], t0, n, 0)) rfl (fun _ => rfl) rfl ?_
      refine ex_go (S := (33, [(3, .inl 0), (2, .inl 1), (0, gx_r 383), (1, .inl i)], [.inl 2, .inl i, gx_r 396, .inl (8 * y9)], t0, n, 0)) rfl (fun _ => rfl) rfl ?_
      refine ex_iadd rfl (by first | decide | omega) rfl ?_
      refine gx_ag (v := .inl x9) (cb := fun c => Nat.beq c 0) rfl (fun _ => rfl) g0 rfl rfl r2 (by first | decide | omega) rfl ?_
      refine ex_iadd rfl (by first | decide | omega) rfl ?_
      rw [hxy]
      show en_ex _ _ _ _ (36, [(3, .inl 0), (2, .inl 1), (0, gx_r 383), (1, .inl i)], [.inl d9.2.2], t0, n, 0) _
      refine ex_go (S := (38, [(4, .inl d9.2.2), (3, .inl 0), (2, .inl 1), (0, gx_r 383), (1, .inl i)], [], t0, n, 0)) rfl (fun _ => rfl) rfl ?_
      refine ex_go (S := (39, [(4, .inl d9.2.2), (3, .inl 0), (2, .inl 1), (0, gx_r 383), (1, .inl i)], [.inl 1], t0, n, 0)) rfl (fun _ => rfl) rfl ?_
      refine ex_go (S := (42, [(4, .inl d9.2.2), (3, .inl 0), (2, .inl 1), (0, gx_r 383), (1, .inl i)], [], t0, n, 0)) rfl (fun _ => rfl) rfl ?_
      refine ex_go (S := (43, [(4, .inl d9.2.2), (3, .inl 0), (2, .inl 1), (0, gx_r 383), (1, .inl i)], [.inl 1], t0, n, 0)) rfl (fun _ => rfl) rfl ?_
      refine ex_go (S := (44, [(4, .inl d9.2.2), (3, .inl 0), (2, .inl 1), (0, gx_r 383), (1, .inl i)], [.inl 1, .inl 1], t0, n, 0)) rfl (fun _ => rfl) rfl ?_
      refine ex_go (S := (47, [(4, .inl d9.2.2), (3, .inl 0), (2, .inl 1), (0, gx_r 383), (1, .inl i)], [], t0, n, 0)) rfl (fun _ => rfl) rfl ?_
      refine ex_go (S := (48, [(4, .inl d9.2.2), (3, .inl 0), (2, .inl 1), (0, gx_r 383), (1, .inl i)], [gx_r 383], t0, n, 0)) rfl (fun _ => rfl) rfl ?_
      refine ex_go (S := (51, [(4, .inl d9.2.2), (3, .inl 0), (2, .inl 1), (0, gx_r 383), (1, .inl i)], [.inl 945, gx_r 383], t0, n, 0)) rfl (fun _ => rfl) rfl ?_
      refine ex_go (S := (52, [(4, .inl d9.2.2), (3, .inl 0), (2, .inl 1), (0, gx_r 383), (1, .inl i)], [.inl 0, .inl 945, gx_r 383], t0, n, 0)) rfl (fun _ => rfl) rfl ?_
      refine ex_go (S := (54, [(4, .inl d9.2.2), (3, .inl 0), (2, .inl 1), (0, gx_r 383), (1, .inl i)], [.inl d9.2.2, .inl 0, .inl 945, gx_r 383], t0, n, 0)) rfl (fun _ => rfl) rfl ?_
      obtain ⟨_, r121, v121, t121, rfl, g121, e121, hv121, hm121⟩ := sr_mayH945_0 (d + 1) n (to := d9.2.2) g0 hR hb (fun j hj => hσ j hj) (by first | decide | omega) hc9 (by first | decide | omega)
      refine gx_call1 rfl rfl g0 rfl rfl r121 rfl ?_
      have k22 : ai_hv t121 396 i = some (.inl 1) := (e121 396 i (by first | decide | omega)).trans r0
      have k23 : ai_hv t121 396 (i + 1) = some (.inl 0) := (e121 396 (i + 1) (by first | decide | omega)).trans r1
      have k24 : ai_hv t121 396 (i + 2) = some (.inl x9) := (e121 396 (i + 2) (by first | decide | omega)).trans r2
      have k25 : ai_hv t121 396 (i + 3) = some (.inl y9) := (e121 396 (i + 3) (by first | decide | omega)).trans r3
      show en_ex _ _ _ _ (57, [(4, .inl d9.2.2), (3, .inl 0), (2, .inl 1), (0, gx_r 383), (1, .inl i)], [.inl v121], t121, n, 0) _
      by_cases hc26 : v121 = 0
      · refine gx_1t (c := .eq) rfl (by first | decide | omega) hc26 rfl ?_
        refine ex_go (S := (98, [(4, .inl d9.2.2), (3, .inl 0), (2, .inl 1), (0, gx_r 383), (1, .inl i)], [.inl 0], t121, n, 0)) rfl (fun _ => rfl) rfl ?_
        refine ex_go (S := (100, [(5, .inl 0), (4, .inl d9.2.2), (3, .inl 0), (2, .inl 1), (0, gx_r 383), (1, .inl i)], [], t121, n, 0)) rfl (fun _ => rfl) rfl ?_
        refine ex_go (S := (102, [(5, .inl 0), (4, .inl d9.2.2), (3, .inl 0), (2, .inl 1), (0, gx_r 383), (1, .inl i)], [.inl 0], t121, n, 0)) rfl (fun _ => rfl) rfl ?_
        refine ex_go (S := (135, [(5, .inl 0), (4, .inl d9.2.2), (3, .inl 0), (2, .inl 1), (0, gx_r 383), (1, .inl i)], [], t121, n, 0)) rfl (fun _ => rfl) rfl ?_
        refine ex_go (S := (137, [(5, .inl 0), (4, .inl d9.2.2), (3, .inl 0), (2, .inl 1), (0, gx_r 383), (1, .inl i)], [.inl 0], t121, n, 0)) rfl (fun _ => rfl) rfl ?_
        refine ex_go (S := (158, [(5, .inl 0), (4, .inl d9.2.2), (3, .inl 0), (2, .inl 1), (0, gx_r 383), (1, .inl i)], [], t121, n, 0)) rfl (fun _ => rfl) rfl ?_
        refine ex_go (S := (160, [(5, .inl 0), (4, .inl d9.2.2), (3, .inl 0), (2, .inl 1), (0, gx_r 383), (1, .inl i)], [.inl 0], t121, n, 0)) rfl (fun _ => rfl) rfl ?_
        refine ex_go (S := (188, [(5, .inl 0), (4, .inl d9.2.2), (3, .inl 0), (2, .inl 1), (0, gx_r 383), (1, .inl i)], [], t121, n, 0)) rfl (fun _ => rfl) rfl ?_
        refine ex_go (S := (190, [(5, .inl 0), (4, .inl d9.2.2), (3, .inl 0), (2, .inl 1), (0, gx_r 383), (1, .inl i)], [.inl 0], t121, n, 0)) rfl (fun _ => rfl) rfl ?_
        refine ex_go (S := (204, [(5, .inl 0), (4, .inl d9.2.2), (3, .inl 0), (2, .inl 1), (0, gx_r 383), (1, .inl i)], [], t121, n, 0)) rfl (fun _ => rfl) rfl ?_
        refine ex_go (S := (206, [(5, .inl 0), (4, .inl d9.2.2), (3, .inl 0), (2, .inl 1), (0, gx_r 383), (1, .inl i)], [.inl 0], t121, n, 0)) rfl (fun _ => rfl) rfl ?_
        refine ex_ret (r := (some (.inl 0), t121, n, 0)) rfl (fun _ => rfl) ?_
        have hno : ¬ dlc w σ d9 := fun z => by
          have z := (dlc_1 hd).mp z
          rw [hcr] at z
          have := hm121.mpr z
          omega
        exact ⟨_, rfl, 0, _, rfl, g121, (fun c i h => e121 c i (by first | decide | omega)), (fun j hj => by rw [dls_n hno]; exact (e121 399 _ (by first | decide | omega)).trans (hσ j hj)), Or.inr ⟨hno, rfl⟩⟩
      · refine gx_1f (c := .eq) rfl (by first | decide | omega) hc26 rfl ?_
        refine ex_go (S := (93, [(4, .inl d9.2.2), (3, .inl 0), (2, .inl 1), (0, gx_r 383), (1, .inl i)], [], t121, n, 0)) rfl (fun _ => rfl) rfl ?_
        refine ex_go (S := (94, [(4, .inl d9.2.2), (3, .inl 0), (2, .inl 1), (0, gx_r 383), (1, .inl i)], [.inl 1], t121, n, 0)) rfl (fun _ => rfl) rfl ?_
        refine ex_go (S := (98, [(4, .inl d9.2.2), (3, .inl 0), (2, .inl 1), (0, gx_r 383), (1, .inl i)], [.inl 1], t121, n, 0)) rfl (fun _ => rfl) rfl ?_
        refine ex_go (S := (100, [(5, .inl 1), (4, .inl d9.2.2), (3, .inl 0), (2, .inl 1), (0, gx_r 383), (1, .inl i)], [], t121, n, 0)) rfl (fun _ => rfl) rfl ?_
        refine ex_go (S := (102, [(5, .inl 1), (4, .inl d9.2.2), (3, .inl 0), (2, .inl 1), (0, gx_r 383), (1, .inl i)], [.inl 1], t121, n, 0)) rfl (fun _ => rfl) rfl ?_
        refine ex_go (S := (105, [(5, .inl 1), (4, .inl d9.2.2), (3, .inl 0), (2, .inl 1), (0, gx_r 383), (1, .inl i)], [], t121, n, 0)) rfl (fun _ => rfl) rfl ?_
        refine ex_go (S := (106, [(5, .inl 1), (4, .inl d9.2.2), (3, .inl 0), (2, .inl 1), (0, gx_r 383), (1, .inl i)], [.inl 1], t121, n, 0)) rfl (fun _ => rfl) rfl ?_
        refine ex_go (S := (135, [(5, .inl 1), (4, .inl d9.2.2), (3, .inl 0), (2, .inl 1), (0, gx_r 383), (1, .inl i)], [], t121, n, 0)) rfl (fun _ => rfl) rfl ?_
        refine ex_go (S := (137, [(5, .inl 1), (4, .inl d9.2.2), (3, .inl 0), (2, .inl 1), (0, gx_r 383), (1, .inl i)], [.inl 1], t121, n, 0)) rfl (fun _ => rfl) rfl ?_
        refine ex_go (S := (140, [(5, .inl 1), (4, .inl d9.2.2), (3, .inl 0), (2, .inl 1), (0, gx_r 383), (1, .inl i)], [], t121, n, 0)) rfl (fun _ => rfl) rfl ?_
        refine ex_go (S := (141, [(5, .inl 1), (4, .inl d9.2.2), (3, .inl 0), (2, .inl 1), (0, gx_r 383), (1, .inl i)], [.inl 1], t121, n, 0)) rfl (fun _ => rfl) rfl ?_
        refine ex_go (S := (142, [(5, .inl 1), (4, .inl d9.2.2), (3, .inl 0), (2, .inl 1), (0, gx_r 383), (1, .inl i)], [.inl 1, .inl 1], t121, n, 0)) rfl (fun _ => rfl) rfl ?_
        refine ex_go (S := (145, [(5, .inl 1), (4, .inl d9.2.2), (3, .inl 0), (2, .inl 1), (0, gx_r 383), (1, .inl i)], [], t121, n, 0)) rfl (fun _ => rfl) rfl ?_
        refine ex_go (S := (146, [(5, .inl 1), (4, .inl d9.2.2), (3, .inl 0), (2, .inl 1), (0, gx_r 383), (1, .inl i)], [gx_r 383], t121, n, 0)) rfl (fun _ => rfl) rfl ?_
        refine ex_go (S := (149, [(5, .inl 1), (4, .inl d9.2.2), (3, .inl 0), (2, .inl 1), (0, gx_r 383), (1, .inl i)], [.inl 945, gx_r 383], t121, n, 0)) rfl (fun _ => rfl) rfl ?_
        refine ex_go (S := (150, [(5, .inl 1), (4, .inl d9.2.2), (3, .inl 0), (2, .inl 1), (0, gx_r 383), (1, .inl i)], [.inl 0, .inl 945, gx_r 383], t121, n, 0)) rfl (fun _ => rfl) rfl ?_
        refine ex_go (S := (152, [(5, .inl 1), (4, .inl d9.2.2), (3, .inl 0), (2, .inl 1), (0, gx_r 383), (1, .inl i)], [.inl d9.2.2, .inl 0, .inl 945, gx_r 383], t121, n, 0)) rfl (fun _ => rfl) rfl ?_
        obtain ⟨_, r127, t127, rfl, g127, e127, y127⟩ := sr_hto945_0 (w := w) (L := L) (d + 4) n (to := d9.2.2) g121 (fun j hj => (e121 399 _ (by first | decide | omega)).trans (hσ j hj)) (by first | decide | omega)
        refine gx_call0 rfl rfl g121 rfl rfl r127 rfl ?_
        have k28 : ai_hv t127 396 i = some (.inl 1) := (e127 396 i (by first | decide | omega)).trans k22
        have k29 : ai_hv t127 396 (i + 1) = some (.inl 0) := (e127 396 (i + 1) (by first | decide | omega)).trans k23
        have k30 : ai_hv t127 396 (i + 2) = some (.inl x9) := (e127 396 (i + 2) (by first | decide | omega)).trans k24
        have k31 : ai_hv t127 396 (i + 3) = some (.inl y9) := (e127 396 (i + 3) (by first | decide | omega)).trans k25
        show en_ex _ _ _ _ (155, [(5, .inl 1), (4, .inl d9.2.2), (3, .inl 0), (2, .inl 1), (0, gx_r 383), (1, .inl i)], [], t127, n, 0) _
        refine ex_go (S := (204, [(5, .inl 1), (4, .inl d9.2.2), (3, .inl 0), (2, .inl 1), (0, gx_r 383), (1, .inl i)], [], t127, n, 0)) rfl (fun _ => rfl) rfl ?_
        refine ex_go (S := (206, [(5, .inl 1), (4, .inl d9.2.2), (3, .inl 0), (2, .inl 1), (0, gx_r 383), (1, .inl i)], [.inl 1], t127, n, 0)) rfl (fun _ => rfl) rfl ?_
        refine ex_ret (r := (some (.inl 1), t127, n, 0)) rfl (fun _ => rfl) ?_
        exact ⟨_, rfl, 1, _, rfl, g127, (fun c i h => (e127 c i (by first | decide | omega)).trans (e121 c i (by first | decide | omega))), (fun j hj => by rw [dls_1 hd (by rw [hcr]; exact (hm121.mp (by first | decide | omega))), hcr]; exact y127 j hj), Or.inl ⟨(dlc_1 hd).mpr (by rw [hcr]; exact (hm121.mp (by first | decide | omega))), rfl⟩⟩
    · refine en_u_ex (d := d + 5) rfl ?_
      show en_ex _ _ _ _ (0, [(0, gx_r 383), (1, .inl i)], [], t0, n, 0) _
      refine ex_go (S := (1, [(0, gx_r 383), (1, .inl i)], [gx_r 383], t0, n, 0)) rfl (fun _ => rfl) rfl ?_
      refine gx_ref (c := 396) rfl g0 rfl rfl rfl rfl ?_
      refine ex_go (S := (5, [(0, gx_r 383), (1, .inl i)], [.inl i, gx_r 396], t0, n, 0)) rfl (fun _ => rfl) rfl ?_
      refine gx_ag (v := .inl 1) (cb := fun c => Nat.beq c 0) rfl (fun _ => rfl) g0 rfl rfl r0 (by first | decide | omega) rfl ?_
      refine ex_go (S := (7, [(2, .inl 1), (0, gx_r 383), (1, .inl i)], [], t0, n, 0)) rfl (fun _ => rfl) rfl ?_
      refine ex_go (S := (8, [(2, .inl 1), (0, gx_r 383), (1, .inl i)], [gx_r 383], t0, n, 0)) rfl (fun _ => rfl) rfl ?_
      refine gx_ref (c := 396) rfl g0 rfl rfl rfl rfl ?_
      refine ex_go (S := (12, [(2, .inl 1), (0, gx_r 383), (1, .inl i)], [.inl i, gx_r 396], t0, n, 0)) rfl (fun _ => rfl) rfl ?_
      refine ex_go (S := (13, [(2, .inl 1), (0, gx_r 383), (1, .inl i)], [.inl 1, .inl i, gx_r 396], t0, n, 0)) rfl (fun _ => rfl) rfl ?_
      refine ex_iadd rfl (by first | decide | omega) rfl ?_
      refine gx_ag (v := .inl 1) (cb := fun c => Nat.beq c 0) rfl (fun _ => rfl) g0 rfl rfl r1 (by first | decide | omega) rfl ?_
      refine ex_go (S := (16, [(3, .inl 1), (2, .inl 1), (0, gx_r 383), (1, .inl i)], [], t0, n, 0)) rfl (fun _ => rfl) rfl ?_
      refine ex_go (S := (18, [(3, .inl 1), (2, .inl 1), (0, gx_r 383), (1, .inl i)], [.inl 8], t0, n, 0)) rfl (fun _ => rfl) rfl ?_
      refine ex_go (S := (19, [(3, .inl 1), (2, .inl 1), (0, gx_r 383), (1, .inl i)], [gx_r 383, .inl 8], t0, n, 0)) rfl (fun _ => rfl) rfl ?_
      refine gx_ref (c := 396) rfl g0 rfl rfl rfl rfl ?_
      refine ex_go (S := (23, [(3, .inl 1), (2, .inl 1), (0, gx_r 383), (1, .inl i)], [.inl i, gx_r 396, .inl 8], t0, n, 0)) rfl (fun _ => rfl) rfl ?_
      refine ex_go (S := (24, [(3, .inl 1), (2, .inl 1), (0, gx_r 383), (1, .inl i)], [.inl 3, .inl i, gx_r 396, .inl 8], t0, n, 0)) rfl (fun _ => rfl) rfl ?_
      refine ex_iadd rfl (by first | decide | omega) rfl ?_
      refine gx_ag (v := .inl y9) (cb := fun c => Nat.beq c 0) rfl (fun _ => rfl) g0 rfl rfl r3 (by first | decide | omega) rfl ?_
      refine gx_imul rfl (by first | decide | omega) rfl ?_
      refine ex_go (S := (28, [(3, .inl 1), (2, .inl 1), (0, gx_r 383), (1, .inl i)], [gx_r 383, .inl (8 * y9)], t0, n, 0)) rfl (fun _ => rfl) rfl ?_
      refine gx_ref (c := 396) rfl g0 rfl rfl rfl rfl ?_
      refine ex_go (S := (32, [(3, .inl 1), (2, .inl 1), (0, gx_r 383), (1, .inl i)], [.inl i, gx_r 396, .inl (8 * y9)], t0, n, 0)) rfl (fun _ => rfl) rfl ?_
      refine ex_go (S := (33, [(3, .inl 1), (2, .inl 1), (0, gx_r 383), (1, .inl i)], [.inl 2, .inl i, gx_r 396, .inl (8 * y9)], t0, n, 0)) rfl (fun _ => rfl) rfl ?_
      refine ex_iadd rfl (by first | decide | omega) rfl ?_
      refine gx_ag (v := .inl x9) (cb := fun c => Nat.beq c 0) rfl (fun _ => rfl) g0 rfl rfl r2 (by first | decide | omega) rfl ?_
      refine ex_iadd rfl (by first | decide | omega) rfl ?_
      rw [hxy]
      show en_ex _ _ _ _ (36, [(3, .inl 1), (2, .inl 1), (0, gx_r 383), (1, .inl i)], [.inl d9.2.2], t0, n, 0) _
      refine ex_go (S := (38, [(4, .inl d9.2.2), (3, .inl 1), (2, .inl 1), (0, gx_r 383), (1, .inl i)], [], t0, n, 0)) rfl (fun _ => rfl) rfl ?_
      refine ex_go (S := (39, [(4, .inl d9.2.2), (3, .inl 1), (2, .inl 1), (0, gx_r 383), (1, .inl i)], [.inl 1], t0, n, 0)) rfl (fun _ => rfl) rfl ?_
      refine ex_go (S := (42, [(4, .inl d9.2.2), (3, .inl 1), (2, .inl 1), (0, gx_r 383), (1, .inl i)], [], t0, n, 0)) rfl (fun _ => rfl) rfl ?_
      refine ex_go (S := (43, [(4, .inl d9.2.2), (3, .inl 1), (2, .inl 1), (0, gx_r 383), (1, .inl i)], [.inl 1], t0, n, 0)) rfl (fun _ => rfl) rfl ?_
      refine ex_go (S := (44, [(4, .inl d9.2.2), (3, .inl 1), (2, .inl 1), (0, gx_r 383), (1, .inl i)], [.inl 1, .inl 1], t0, n, 0)) rfl (fun _ => rfl) rfl ?_
      refine ex_go (S := (47, [(4, .inl d9.2.2), (3, .inl 1), (2, .inl 1), (0, gx_r 383), (1, .inl i)], [], t0, n, 0)) rfl (fun _ => rfl) rfl ?_
      refine ex_go (S := (48, [(4, .inl d9.2.2), (3, .inl 1), (2, .inl 1), (0, gx_r 383), (1, .inl i)], [gx_r 383], t0, n, 0)) rfl (fun _ => rfl) rfl ?_
      refine ex_go (S := (51, [(4, .inl d9.2.2), (3, .inl 1), (2, .inl 1), (0, gx_r 383), (1, .inl i)], [.inl 945, gx_r 383], t0, n, 0)) rfl (fun _ => rfl) rfl ?_
      refine ex_go (S := (52, [(4, .inl d9.2.2), (3, .inl 1), (2, .inl 1), (0, gx_r 383), (1, .inl i)], [.inl 1, .inl 945, gx_r 383], t0, n, 0)) rfl (fun _ => rfl) rfl ?_
      refine ex_go (S := (54, [(4, .inl d9.2.2), (3, .inl 1), (2, .inl 1), (0, gx_r 383), (1, .inl i)], [.inl d9.2.2, .inl 1, .inl 945, gx_r 383], t0, n, 0)) rfl (fun _ => rfl) rfl ?_
      obtain ⟨_, r121, v121, t121, rfl, g121, e121, hv121, hm121⟩ := sr_mayH945_1 (d + 1) n (to := d9.2.2) g0 hR hb (fun j hj => hσ j hj) (by first | decide | omega) hc9 (by first | decide | omega)
      refine gx_call1 rfl rfl g0 rfl rfl r121 rfl ?_
      have k22 : ai_hv t121 396 i = some (.inl 1) := (e121 396 i (by first | decide | omega)).trans r0
      have k23 : ai_hv t121 396 (i + 1) = some (.inl 1) := (e121 396 (i + 1) (by first | decide | omega)).trans r1
      have k24 : ai_hv t121 396 (i + 2) = some (.inl x9) := (e121 396 (i + 2) (by first | decide | omega)).trans r2
      have k25 : ai_hv t121 396 (i + 3) = some (.inl y9) := (e121 396 (i + 3) (by first | decide | omega)).trans r3
      show en_ex _ _ _ _ (57, [(4, .inl d9.2.2), (3, .inl 1), (2, .inl 1), (0, gx_r 383), (1, .inl i)], [.inl v121], t121, n, 0) _
      by_cases hc26 : v121 = 0
      · refine gx_1t (c := .eq) rfl (by first | decide | omega) hc26 rfl ?_
        refine ex_go (S := (98, [(4, .inl d9.2.2), (3, .inl 1), (2, .inl 1), (0, gx_r 383), (1, .inl i)], [.inl 0], t121, n, 0)) rfl (fun _ => rfl) rfl ?_
        refine ex_go (S := (100, [(5, .inl 0), (4, .inl d9.2.2), (3, .inl 1), (2, .inl 1), (0, gx_r 383), (1, .inl i)], [], t121, n, 0)) rfl (fun _ => rfl) rfl ?_
        refine ex_go (S := (102, [(5, .inl 0), (4, .inl d9.2.2), (3, .inl 1), (2, .inl 1), (0, gx_r 383), (1, .inl i)], [.inl 0], t121, n, 0)) rfl (fun _ => rfl) rfl ?_
        refine ex_go (S := (135, [(5, .inl 0), (4, .inl d9.2.2), (3, .inl 1), (2, .inl 1), (0, gx_r 383), (1, .inl i)], [], t121, n, 0)) rfl (fun _ => rfl) rfl ?_
        refine ex_go (S := (137, [(5, .inl 0), (4, .inl d9.2.2), (3, .inl 1), (2, .inl 1), (0, gx_r 383), (1, .inl i)], [.inl 0], t121, n, 0)) rfl (fun _ => rfl) rfl ?_
        refine ex_go (S := (158, [(5, .inl 0), (4, .inl d9.2.2), (3, .inl 1), (2, .inl 1), (0, gx_r 383), (1, .inl i)], [], t121, n, 0)) rfl (fun _ => rfl) rfl ?_
        refine ex_go (S := (160, [(5, .inl 0), (4, .inl d9.2.2), (3, .inl 1), (2, .inl 1), (0, gx_r 383), (1, .inl i)], [.inl 0], t121, n, 0)) rfl (fun _ => rfl) rfl ?_
        refine ex_go (S := (188, [(5, .inl 0), (4, .inl d9.2.2), (3, .inl 1), (2, .inl 1), (0, gx_r 383), (1, .inl i)], [], t121, n, 0)) rfl (fun _ => rfl) rfl ?_
        refine ex_go (S := (190, [(5, .inl 0), (4, .inl d9.2.2), (3, .inl 1), (2, .inl 1), (0, gx_r 383), (1, .inl i)], [.inl 0], t121, n, 0)) rfl (fun _ => rfl) rfl ?_
        refine ex_go (S := (204, [(5, .inl 0), (4, .inl d9.2.2), (3, .inl 1), (2, .inl 1), (0, gx_r 383), (1, .inl i)], [], t121, n, 0)) rfl (fun _ => rfl) rfl ?_
        refine ex_go (S := (206, [(5, .inl 0), (4, .inl d9.2.2), (3, .inl 1), (2, .inl 1), (0, gx_r 383), (1, .inl i)], [.inl 0], t121, n, 0)) rfl (fun _ => rfl) rfl ?_
        refine ex_ret (r := (some (.inl 0), t121, n, 0)) rfl (fun _ => rfl) ?_
        have hno : ¬ dlc w σ d9 := fun z => by
          have z := (dlc_1 hd).mp z
          rw [hcr] at z
          have := hm121.mpr z
          omega
        exact ⟨_, rfl, 0, _, rfl, g121, (fun c i h => e121 c i (by first | decide | omega)), (fun j hj => by rw [dls_n hno]; exact (e121 399 _ (by first | decide | omega)).trans (hσ j hj)), Or.inr ⟨hno, rfl⟩⟩
      · refine gx_1f (c := .eq) rfl (by first | decide | omega) hc26 rfl ?_
        refine ex_go (S := (93, [(4, .inl d9.2.2), (3, .inl 1), (2, .inl 1), (0, gx_r 383), (1, .inl i)], [], t121, n, 0)) rfl (fun _ => rfl) rfl ?_
        refine ex_go (S := (94, [(4, .inl d9.2.2), (3, .inl 1), (2, .inl 1), (0, gx_r 383), (1, .inl i)], [.inl 1], t121, n, 0)) rfl (fun _ => rfl) rfl ?_
        refine ex_go (S := (98, [(4, .inl d9.2.2), (3, .inl 1), (2, .inl 1), (0, gx_r 383), (1, .inl i)], [.inl 1], t121, n, 0)) rfl (fun _ => rfl) rfl ?_
        refine ex_go (S := (100, [(5, .inl 1), (4, .inl d9.2.2), (3, .inl 1), (2, .inl 1), (0, gx_r 383), (1, .inl i)], [], t121, n, 0)) rfl (fun _ => rfl) rfl ?_
        refine ex_go (S := (102, [(5, .inl 1), (4, .inl d9.2.2), (3, .inl 1), (2, .inl 1), (0, gx_r 383), (1, .inl i)], [.inl 1], t121, n, 0)) rfl (fun _ => rfl) rfl ?_
        refine ex_go (S := (105, [(5, .inl 1), (4, .inl d9.2.2), (3, .inl 1), (2, .inl 1), (0, gx_r 383), (1, .inl i)], [], t121, n, 0)) rfl (fun _ => rfl) rfl ?_
        refine ex_go (S := (106, [(5, .inl 1), (4, .inl d9.2.2), (3, .inl 1), (2, .inl 1), (0, gx_r 383), (1, .inl i)], [.inl 1], t121, n, 0)) rfl (fun _ => rfl) rfl ?_
        refine ex_go (S := (135, [(5, .inl 1), (4, .inl d9.2.2), (3, .inl 1), (2, .inl 1), (0, gx_r 383), (1, .inl i)], [], t121, n, 0)) rfl (fun _ => rfl) rfl ?_
        refine ex_go (S := (137, [(5, .inl 1), (4, .inl d9.2.2), (3, .inl 1), (2, .inl 1), (0, gx_r 383), (1, .inl i)], [.inl 1], t121, n, 0)) rfl (fun _ => rfl) rfl ?_
        refine ex_go (S := (140, [(5, .inl 1), (4, .inl d9.2.2), (3, .inl 1), (2, .inl 1), (0, gx_r 383), (1, .inl i)], [], t121, n, 0)) rfl (fun _ => rfl) rfl ?_
        refine ex_go (S := (141, [(5, .inl 1), (4, .inl d9.2.2), (3, .inl 1), (2, .inl 1), (0, gx_r 383), (1, .inl i)], [.inl 1], t121, n, 0)) rfl (fun _ => rfl) rfl ?_
        refine ex_go (S := (142, [(5, .inl 1), (4, .inl d9.2.2), (3, .inl 1), (2, .inl 1), (0, gx_r 383), (1, .inl i)], [.inl 1, .inl 1], t121, n, 0)) rfl (fun _ => rfl) rfl ?_
        refine ex_go (S := (145, [(5, .inl 1), (4, .inl d9.2.2), (3, .inl 1), (2, .inl 1), (0, gx_r 383), (1, .inl i)], [], t121, n, 0)) rfl (fun _ => rfl) rfl ?_
        refine ex_go (S := (146, [(5, .inl 1), (4, .inl d9.2.2), (3, .inl 1), (2, .inl 1), (0, gx_r 383), (1, .inl i)], [gx_r 383], t121, n, 0)) rfl (fun _ => rfl) rfl ?_
        refine ex_go (S := (149, [(5, .inl 1), (4, .inl d9.2.2), (3, .inl 1), (2, .inl 1), (0, gx_r 383), (1, .inl i)], [.inl 945, gx_r 383], t121, n, 0)) rfl (fun _ => rfl) rfl ?_
        refine ex_go (S := (150, [(5, .inl 1), (4, .inl d9.2.2), (3, .inl 1), (2, .inl 1), (0, gx_r 383), (1, .inl i)], [.inl 1, .inl 945, gx_r 383], t121, n, 0)) rfl (fun _ => rfl) rfl ?_
        refine ex_go (S := (152, [(5, .inl 1), (4, .inl d9.2.2), (3, .inl 1), (2, .inl 1), (0, gx_r 383), (1, .inl i)], [.inl d9.2.2, .inl 1, .inl 945, gx_r 383], t121, n, 0)) rfl (fun _ => rfl) rfl ?_
        obtain ⟨_, r127, t127, rfl, g127, e127, y127⟩ := sr_hto945_1 (w := w) (L := L) (d + 4) n (to := d9.2.2) g121 (fun j hj => (e121 399 _ (by first | decide | omega)).trans (hσ j hj)) (by first | decide | omega)
        refine gx_call0 rfl rfl g121 rfl rfl r127 rfl ?_
        have k28 : ai_hv t127 396 i = some (.inl 1) := (e127 396 i (by first | decide | omega)).trans k22
        have k29 : ai_hv t127 396 (i + 1) = some (.inl 1) := (e127 396 (i + 1) (by first | decide | omega)).trans k23
        have k30 : ai_hv t127 396 (i + 2) = some (.inl x9) := (e127 396 (i + 2) (by first | decide | omega)).trans k24
        have k31 : ai_hv t127 396 (i + 3) = some (.inl y9) := (e127 396 (i + 3) (by first | decide | omega)).trans k25
        show en_ex _ _ _ _ (155, [(5, .inl 1), (4, .inl d9.2.2), (3, .inl 1), (2, .inl 1), (0, gx_r 383), (1, .inl i)], [], t127, n, 0) _
        refine ex_go (S := (204, [(5, .inl 1), (4, .inl d9.2.2), (3, .inl 1), (2, .inl 1), (0, gx_r 383), (1, .inl i)], [], t127, n, 0)) rfl (fun _ => rfl) rfl ?_
        refine ex_go (S := (206, [(5, .inl 1), (4, .inl d9.2.2), (3, .inl 1), (2, .inl 1), (0, gx_r 383), (1, .inl i)], [.inl 1], t127, n, 0)) rfl (fun _ => rfl) rfl ?_
        refine ex_ret (r := (some (.inl 1), t127, n, 0)) rfl (fun _ => rfl) ?_
        exact ⟨_, rfl, 1, _, rfl, g127, (fun c i h => (e127 c i (by first | decide | omega)).trans (e121 c i (by first | decide | omega))), (fun j hj => by rw [dls_1 hd (by rw [hcr]; exact (hm121.mp (by first | decide | omega))), hcr]; exact y127 j hj), Or.inl ⟨(dlc_1 hd).mpr (by rw [hcr]; exact (hm121.mp (by first | decide | omega))), rfl⟩⟩
  · rcases (show d9.2.1 = 0 ∨ d9.2.1 = 1 by omega) with hcr | hcr <;> rw [hcr] at r1 hc9
    · refine en_u_ex (d := d + 5) rfl ?_
      show en_ex _ _ _ _ (0, [(0, gx_r 383), (1, .inl i)], [], t0, n, 0) _
      refine ex_go (S := (1, [(0, gx_r 383), (1, .inl i)], [gx_r 383], t0, n, 0)) rfl (fun _ => rfl) rfl ?_
      refine gx_ref (c := 396) rfl g0 rfl rfl rfl rfl ?_
      refine ex_go (S := (5, [(0, gx_r 383), (1, .inl i)], [.inl i, gx_r 396], t0, n, 0)) rfl (fun _ => rfl) rfl ?_
      refine gx_ag (v := .inl 2) (cb := fun c => Nat.beq c 0) rfl (fun _ => rfl) g0 rfl rfl r0 (by first | decide | omega) rfl ?_
      refine ex_go (S := (7, [(2, .inl 2), (0, gx_r 383), (1, .inl i)], [], t0, n, 0)) rfl (fun _ => rfl) rfl ?_
      refine ex_go (S := (8, [(2, .inl 2), (0, gx_r 383), (1, .inl i)], [gx_r 383], t0, n, 0)) rfl (fun _ => rfl) rfl ?_
      refine gx_ref (c := 396) rfl g0 rfl rfl rfl rfl ?_
      refine ex_go (S := (12, [(2, .inl 2), (0, gx_r 383), (1, .inl i)], [.inl i, gx_r 396], t0, n, 0)) rfl (fun _ => rfl) rfl ?_
      refine ex_go (S := (13, [(2, .inl 2), (0, gx_r 383), (1, .inl i)], [.inl 1, .inl i, gx_r 396], t0, n, 0)) rfl (fun _ => rfl) rfl ?_
      refine ex_iadd rfl (by first | decide | omega) rfl ?_
      refine gx_ag (v := .inl 0) (cb := fun c => Nat.beq c 0) rfl (fun _ => rfl) g0 rfl rfl r1 (by first | decide | omega) rfl ?_
      refine ex_go (S := (16, [(3, .inl 0), (2, .inl 2), (0, gx_r 383), (1, .inl i)], [], t0, n, 0)) rfl (fun _ => rfl) rfl ?_
      refine ex_go (S := (18, [(3, .inl 0), (2, .inl 2), (0, gx_r 383), (1, .inl i)], [.inl 8], t0, n, 0)) rfl (fun _ => rfl) rfl ?_
      refine ex_go (S := (19, [(3, .inl 0), (2, .inl 2), (0, gx_r 383), (1, .inl i)], [gx_r 383, .inl 8], t0, n, 0)) rfl (fun _ => rfl) rfl ?_
      refine gx_ref (c := 396) rfl g0 rfl rfl rfl rfl ?_
      refine ex_go (S := (23, [(3, .inl 0), (2, .inl 2), (0, gx_r 383), (1, .inl i)], [.inl i, gx_r 396, .inl 8], t0, n, 0)) rfl (fun _ => rfl) rfl ?_
      refine ex_go (S := (24, [(3, .inl 0), (2, .inl 2), (0, gx_r 383), (1, .inl i)], [.inl 3, .inl i, gx_r 396, .inl 8], t0, n, 0)) rfl (fun _ => rfl) rfl ?_
      refine ex_iadd rfl (by first | decide | omega) rfl ?_
      refine gx_ag (v := .inl m3) (cb := fun c => Nat.beq c 0) rfl (fun _ => rfl) g0 rfl rfl k3 (by first | decide | omega) rfl ?_
      refine gx_imulx rfl rfl ?_
      refine ex_go (S := (28, [(3, .inl 0), (2, .inl 2), (0, gx_r 383), (1, .inl i)], [gx_r 383, .inl (en_wrap (8 * m3))], t0, n, 0)) rfl (fun _ => rfl) rfl ?_
      refine gx_ref (c := 396) rfl g0 rfl rfl rfl rfl ?_
      refine ex_go (S := (32, [(3, .inl 0), (2, .inl 2), (0, gx_r 383), (1, .inl i)], [.inl i, gx_r 396, .inl (en_wrap (8 * m3))], t0, n, 0)) rfl (fun _ => rfl) rfl ?_
      refine ex_go (S := (33, [(3, .inl 0), (2, .inl 2), (0, gx_r 383), (1, .inl i)], [.inl 2, .inl i, gx_r 396, .inl (en_wrap (8 * m3))], t0, n, 0)) rfl (fun _ => rfl) rfl ?_
      refine ex_iadd rfl (by first | decide | omega) rfl ?_
      refine gx_ag (v := .inl d9.2.2) (cb := fun c => Nat.beq c 0) rfl (fun _ => rfl) g0 rfl rfl r2 (by first | decide | omega) rfl ?_
      refine gx_iaddx rfl rfl ?_
      refine ex_go (S := (38, [(4, .inl (en_wrap ((en_wrap (8 * m3)) + d9.2.2))), (3, .inl 0), (2, .inl 2), (0, gx_r 383), (1, .inl i)], [], t0, n, 0)) rfl (fun _ => rfl) rfl ?_
      refine ex_go (S := (39, [(4, .inl (en_wrap ((en_wrap (8 * m3)) + d9.2.2))), (3, .inl 0), (2, .inl 2), (0, gx_r 383), (1, .inl i)], [.inl 2], t0, n, 0)) rfl (fun _ => rfl) rfl ?_
      refine ex_go (S := (42, [(4, .inl (en_wrap ((en_wrap (8 * m3)) + d9.2.2))), (3, .inl 0), (2, .inl 2), (0, gx_r 383), (1, .inl i)], [], t0, n, 0)) rfl (fun _ => rfl) rfl ?_
      refine ex_go (S := (43, [(4, .inl (en_wrap ((en_wrap (8 * m3)) + d9.2.2))), (3, .inl 0), (2, .inl 2), (0, gx_r 383), (1, .inl i)], [.inl 2], t0, n, 0)) rfl (fun _ => rfl) rfl ?_
      refine ex_go (S := (44, [(4, .inl (en_wrap ((en_wrap (8 * m3)) + d9.2.2))), (3, .inl 0), (2, .inl 2), (0, gx_r 383), (1, .inl i)], [.inl 1, .inl 2], t0, n, 0)) rfl (fun _ => rfl) rfl ?_
      refine ex_go (S := (63, [(4, .inl (en_wrap ((en_wrap (8 * m3)) + d9.2.2))), (3, .inl 0), (2, .inl 2), (0, gx_r 383), (1, .inl i)], [], t0, n, 0)) rfl (fun _ => rfl) rfl ?_
      refine ex_go (S := (64, [(4, .inl (en_wrap ((en_wrap (8 * m3)) + d9.2.2))), (3, .inl 0), (2, .inl 2), (0, gx_r 383), (1, .inl i)], [.inl 2], t0, n, 0)) rfl (fun _ => rfl) rfl ?_
      refine ex_go (S := (65, [(4, .inl (en_wrap ((en_wrap (8 * m3)) + d9.2.2))), (3, .inl 0), (2, .inl 2), (0, gx_r 383), (1, .inl i)], [.inl 2, .inl 2], t0, n, 0)) rfl (fun _ => rfl) rfl ?_
      refine ex_go (S := (68, [(4, .inl (en_wrap ((en_wrap (8 * m3)) + d9.2.2))), (3, .inl 0), (2, .inl 2), (0, gx_r 383), (1, .inl i)], [], t0, n, 0)) rfl (fun _ => rfl) rfl ?_
      refine ex_go (S := (69, [(4, .inl (en_wrap ((en_wrap (8 * m3)) + d9.2.2))), (3, .inl 0), (2, .inl 2), (0, gx_r 383), (1, .inl i)], [gx_r 383], t0, n, 0)) rfl (fun _ => rfl) rfl ?_
      refine ex_go (S := (72, [(4, .inl (en_wrap ((en_wrap (8 * m3)) + d9.2.2))), (3, .inl 0), (2, .inl 2), (0, gx_r 383), (1, .inl i)], [.inl 945, gx_r 383], t0, n, 0)) rfl (fun _ => rfl) rfl ?_
      refine ex_go (S := (73, [(4, .inl (en_wrap ((en_wrap (8 * m3)) + d9.2.2))), (3, .inl 0), (2, .inl 2), (0, gx_r 383), (1, .inl i)], [.inl 0, .inl 945, gx_r 383], t0, n, 0)) rfl (fun _ => rfl) rfl ?_
      obtain ⟨_, r121, v121, rfl, hv121, hm121⟩ := sr_mayL945_0 (d + 3) n g0 hR hb (fun j hj => hσ j hj) hc9
      refine gx_call1 rfl rfl g0 rfl rfl r121 rfl ?_
      show en_ex _ _ _ _ (76, [(4, .inl (en_wrap ((en_wrap (8 * m3)) + d9.2.2))), (3, .inl 0), (2, .inl 2), (0, gx_r 383), (1, .inl i)], [.inl v121], t0, n, 0) _
      by_cases hc22 : v121 = 0
      · refine gx_1t (c := .eq) rfl (by first | decide | omega) hc22 rfl ?_
        refine ex_go (S := (98, [(4, .inl (en_wrap ((en_wrap (8 * m3)) + d9.2.2))), (3, .inl 0), (2, .inl 2), (0, gx_r 383), (1, .inl i)], [.inl 0], t0, n, 0)) rfl (fun _ => rfl) rfl ?_
        refine ex_go (S := (100, [(5, .inl 0), (4, .inl (en_wrap ((en_wrap (8 * m3)) + d9.2.2))), (3, .inl 0), (2, .inl 2), (0, gx_r 383), (1, .inl i)], [], t0, n, 0)) rfl (fun _ => rfl) rfl ?_
        refine ex_go (S := (102, [(5, .inl 0), (4, .inl (en_wrap ((en_wrap (8 * m3)) + d9.2.2))), (3, .inl 0), (2, .inl 2), (0, gx_r 383), (1, .inl i)], [.inl 0], t0, n, 0)) rfl (fun _ => rfl) rfl ?_
        refine ex_go (S := (135, [(5, .inl 0), (4, .inl (en_wrap ((en_wrap (8 * m3)) + d9.2.2))), (3, .inl 0), (2, .inl 2), (0, gx_r 383), (1, .inl i)], [], t0, n, 0)) rfl (fun _ => rfl) rfl ?_
        refine ex_go (S := (137, [(5, .inl 0), (4, .inl (en_wrap ((en_wrap (8 * m3)) + d9.2.2))), (3, .inl 0), (2, .inl 2), (0, gx_r 383), (1, .inl i)], [.inl 0], t0, n, 0)) rfl (fun _ => rfl) rfl ?_
        refine ex_go (S := (158, [(5, .inl 0), (4, .inl (en_wrap ((en_wrap (8 * m3)) + d9.2.2))), (3, .inl 0), (2, .inl 2), (0, gx_r 383), (1, .inl i)], [], t0, n, 0)) rfl (fun _ => rfl) rfl ?_
        refine ex_go (S := (160, [(5, .inl 0), (4, .inl (en_wrap ((en_wrap (8 * m3)) + d9.2.2))), (3, .inl 0), (2, .inl 2), (0, gx_r 383), (1, .inl i)], [.inl 0], t0, n, 0)) rfl (fun _ => rfl) rfl ?_
        refine ex_go (S := (188, [(5, .inl 0), (4, .inl (en_wrap ((en_wrap (8 * m3)) + d9.2.2))), (3, .inl 0), (2, .inl 2), (0, gx_r 383), (1, .inl i)], [], t0, n, 0)) rfl (fun _ => rfl) rfl ?_
        refine ex_go (S := (190, [(5, .inl 0), (4, .inl (en_wrap ((en_wrap (8 * m3)) + d9.2.2))), (3, .inl 0), (2, .inl 2), (0, gx_r 383), (1, .inl i)], [.inl 0], t0, n, 0)) rfl (fun _ => rfl) rfl ?_
        refine ex_go (S := (204, [(5, .inl 0), (4, .inl (en_wrap ((en_wrap (8 * m3)) + d9.2.2))), (3, .inl 0), (2, .inl 2), (0, gx_r 383), (1, .inl i)], [], t0, n, 0)) rfl (fun _ => rfl) rfl ?_
        refine ex_go (S := (206, [(5, .inl 0), (4, .inl (en_wrap ((en_wrap (8 * m3)) + d9.2.2))), (3, .inl 0), (2, .inl 2), (0, gx_r 383), (1, .inl i)], [.inl 0], t0, n, 0)) rfl (fun _ => rfl) rfl ?_
        refine ex_ret (r := (some (.inl 0), t0, n, 0)) rfl (fun _ => rfl) ?_
        have hno : ¬ dlc w σ d9 := fun z => by
          have z := (dlc_2 hd).mp z
          rw [hcr] at z
          have := hm121.mpr z
          omega
        exact ⟨_, rfl, 0, _, rfl, g0, (fun c i h => rfl), (fun j hj => by rw [dls_n hno]; exact hσ j hj), Or.inr ⟨hno, rfl⟩⟩
      · refine gx_1f (c := .eq) rfl (by first | decide | omega) hc22 rfl ?_
        refine ex_go (S := (93, [(4, .inl (en_wrap ((en_wrap (8 * m3)) + d9.2.2))), (3, .inl 0), (2, .inl 2), (0, gx_r 383), (1, .inl i)], [], t0, n, 0)) rfl (fun _ => rfl) rfl ?_
        refine ex_go (S := (94, [(4, .inl (en_wrap ((en_wrap (8 * m3)) + d9.2.2))), (3, .inl 0), (2, .inl 2), (0, gx_r 383), (1, .inl i)], [.inl 1], t0, n, 0)) rfl (fun _ => rfl) rfl ?_
        refine ex_go (S := (98, [(4, .inl (en_wrap ((en_wrap (8 * m3)) + d9.2.2))), (3, .inl 0), (2, .inl 2), (0, gx_r 383), (1, .inl i)], [.inl 1], t0, n, 0)) rfl (fun _ => rfl) rfl ?_
        refine ex_go (S := (100, [(5, .inl 1), (4, .inl (en_wrap ((en_wrap (8 * m3)) + d9.2.2))), (3, .inl 0), (2, .inl 2), (0, gx_r 383), (1, .inl i)], [], t0, n, 0)) rfl (fun _ => rfl) rfl ?_
        refine ex_go (S := (102, [(5, .inl 1), (4, .inl (en_wrap ((en_wrap (8 * m3)) + d9.2.2))), (3, .inl 0), (2, .inl 2), (0, gx_r 383), (1, .inl i)], [.inl 1], t0, n, 0)) rfl (fun _ => rfl) rfl ?_
        refine ex_go (S := (105, [(5, .inl 1), (4, .inl (en_wrap ((en_wrap (8 * m3)) + d9.2.2))), (3, .inl 0), (2, .inl 2), (0, gx_r 383), (1, .inl i)], [], t0, n, 0)) rfl (fun _ => rfl) rfl ?_
        refine ex_go (S := (106, [(5, .inl 1), (4, .inl (en_wrap ((en_wrap (8 * m3)) + d9.2.2))), (3, .inl 0), (2, .inl 2), (0, gx_r 383), (1, .inl i)], [.inl 2], t0, n, 0)) rfl (fun _ => rfl) rfl ?_
        refine ex_go (S := (135, [(5, .inl 1), (4, .inl (en_wrap ((en_wrap (8 * m3)) + d9.2.2))), (3, .inl 0), (2, .inl 2), (0, gx_r 383), (1, .inl i)], [], t0, n, 0)) rfl (fun _ => rfl) rfl ?_
        refine ex_go (S := (137, [(5, .inl 1), (4, .inl (en_wrap ((en_wrap (8 * m3)) + d9.2.2))), (3, .inl 0), (2, .inl 2), (0, gx_r 383), (1, .inl i)], [.inl 1], t0, n, 0)) rfl (fun _ => rfl) rfl ?_
        refine ex_go (S := (140, [(5, .inl 1), (4, .inl (en_wrap ((en_wrap (8 * m3)) + d9.2.2))), (3, .inl 0), (2, .inl 2), (0, gx_r 383), (1, .inl i)], [], t0, n, 0)) rfl (fun _ => rfl) rfl ?_
        refine ex_go (S := (141, [(5, .inl 1), (4, .inl (en_wrap ((en_wrap (8 * m3)) + d9.2.2))), (3, .inl 0), (2, .inl 2), (0, gx_r 383), (1, .inl i)], [.inl 2], t0, n, 0)) rfl (fun _ => rfl) rfl ?_
        refine ex_go (S := (142, [(5, .inl 1), (4, .inl (en_wrap ((en_wrap (8 * m3)) + d9.2.2))), (3, .inl 0), (2, .inl 2), (0, gx_r 383), (1, .inl i)], [.inl 1, .inl 2], t0, n, 0)) rfl (fun _ => rfl) rfl ?_
        refine ex_go (S := (158, [(5, .inl 1), (4, .inl (en_wrap ((en_wrap (8 * m3)) + d9.2.2))), (3, .inl 0), (2, .inl 2), (0, gx_r 383), (1, .inl i)], [], t0, n, 0)) rfl (fun _ => rfl) rfl ?_
        refine ex_go (S := (160, [(5, .inl 1), (4, .inl (en_wrap ((en_wrap (8 * m3)) + d9.2.2))), (3, .inl 0), (2, .inl 2), (0, gx_r 383), (1, .inl i)], [.inl 1], t0, n, 0)) rfl (fun _ => rfl) rfl ?_
        refine ex_go (S := (163, [(5, .inl 1), (4, .inl (en_wrap ((en_wrap (8 * m3)) + d9.2.2))), (3, .inl 0), (2, .inl 2), (0, gx_r 383), (1, .inl i)], [], t0, n, 0)) rfl (fun _ => rfl) rfl ?_
        refine ex_go (S := (164, [(5, .inl 1), (4, .inl (en_wrap ((en_wrap (8 * m3)) + d9.2.2))), (3, .inl 0), (2, .inl 2), (0, gx_r 383), (1, .inl i)], [.inl 2], t0, n, 0)) rfl (fun _ => rfl) rfl ?_
        refine ex_go (S := (165, [(5, .inl 1), (4, .inl (en_wrap ((en_wrap (8 * m3)) + d9.2.2))), (3, .inl 0), (2, .inl 2), (0, gx_r 383), (1, .inl i)], [.inl 2, .inl 2], t0, n, 0)) rfl (fun _ => rfl) rfl ?_
        refine ex_go (S := (168, [(5, .inl 1), (4, .inl (en_wrap ((en_wrap (8 * m3)) + d9.2.2))), (3, .inl 0), (2, .inl 2), (0, gx_r 383), (1, .inl i)], [], t0, n, 0)) rfl (fun _ => rfl) rfl ?_
        refine ex_go (S := (169, [(5, .inl 1), (4, .inl (en_wrap ((en_wrap (8 * m3)) + d9.2.2))), (3, .inl 0), (2, .inl 2), (0, gx_r 383), (1, .inl i)], [gx_r 383], t0, n, 0)) rfl (fun _ => rfl) rfl ?_
        refine ex_go (S := (172, [(5, .inl 1), (4, .inl (en_wrap ((en_wrap (8 * m3)) + d9.2.2))), (3, .inl 0), (2, .inl 2), (0, gx_r 383), (1, .inl i)], [.inl 945, gx_r 383], t0, n, 0)) rfl (fun _ => rfl) rfl ?_
        refine ex_go (S := (173, [(5, .inl 1), (4, .inl (en_wrap ((en_wrap (8 * m3)) + d9.2.2))), (3, .inl 0), (2, .inl 2), (0, gx_r 383), (1, .inl i)], [.inl 0, .inl 945, gx_r 383], t0, n, 0)) rfl (fun _ => rfl) rfl ?_
        refine ex_go (S := (174, [(5, .inl 1), (4, .inl (en_wrap ((en_wrap (8 * m3)) + d9.2.2))), (3, .inl 0), (2, .inl 2), (0, gx_r 383), (1, .inl i)], [gx_r 383, .inl 0, .inl 945, gx_r 383], t0, n, 0)) rfl (fun _ => rfl) rfl ?_
        refine gx_ref (c := 396) rfl g0 rfl rfl rfl rfl ?_
        refine ex_go (S := (178, [(5, .inl 1), (4, .inl (en_wrap ((en_wrap (8 * m3)) + d9.2.2))), (3, .inl 0), (2, .inl 2), (0, gx_r 383), (1, .inl i)], [.inl i, gx_r 396, .inl 0, .inl 945, gx_r 383], t0, n, 0)) rfl (fun _ => rfl) rfl ?_
        refine ex_go (S := (179, [(5, .inl 1), (4, .inl (en_wrap ((en_wrap (8 * m3)) + d9.2.2))), (3, .inl 0), (2, .inl 2), (0, gx_r 383), (1, .inl i)], [.inl 2, .inl i, gx_r 396, .inl 0, .inl 945, gx_r 383], t0, n, 0)) rfl (fun _ => rfl) rfl ?_
        refine ex_iadd rfl (by first | decide | omega) rfl ?_
        refine gx_ag (v := .inl d9.2.2) (cb := fun c => Nat.beq c 0) rfl (fun _ => rfl) g0 rfl rfl r2 (by first | decide | omega) rfl ?_
        obtain ⟨_, r123, t123, rfl, g123, e123, y123⟩ := sr_lends945_0 (w := w) (L := L) (d + 4) n (v := d9.2.2) g0 hb hsum (fun j hj => hσ j hj) hv
        refine gx_call1 rfl rfl g0 rfl rfl r123 rfl ?_
        have k24 : ai_hv t123 396 i = some (.inl 2) := (e123 396 i (by first | decide | omega)).trans r0
        have k25 : ai_hv t123 396 (i + 1) = some (.inl 0) := (e123 396 (i + 1) (by first | decide | omega)).trans r1
        have k26 : ai_hv t123 396 (i + 2) = some (.inl d9.2.2) := (e123 396 (i + 2) (by first | decide | omega)).trans r2
        have k27 : ai_hv t123 396 (i + 3) = some (.inl m3) := (e123 396 (i + 3) (by first | decide | omega)).trans k3
        show en_ex _ _ _ _ (184, [(5, .inl 1), (4, .inl (en_wrap ((en_wrap (8 * m3)) + d9.2.2))), (3, .inl 0), (2, .inl 2), (0, gx_r 383), (1, .inl i)], [.inl (lnv σ 0 d9.2.2)], t123, n, 0) _
        refine gs_pop rfl rfl rfl ?_
        refine ex_go (S := (204, [(5, .inl 1), (4, .inl (en_wrap ((en_wrap (8 * m3)) + d9.2.2))), (3, .inl 0), (2, .inl 2), (0, gx_r 383), (1, .inl i)], [], t123, n, 0)) rfl (fun _ => rfl) rfl ?_
        refine ex_go (S := (206, [(5, .inl 1), (4, .inl (en_wrap ((en_wrap (8 * m3)) + d9.2.2))), (3, .inl 0), (2, .inl 2), (0, gx_r 383), (1, .inl i)], [.inl 1], t123, n, 0)) rfl (fun _ => rfl) rfl ?_
        refine ex_ret (r := (some (.inl 1), t123, n, 0)) rfl (fun _ => rfl) ?_
        exact ⟨_, rfl, 1, _, rfl, g123, (fun c i h => e123 c i (by first | decide | omega)), (fun j hj => by rw [dls_2 hd (by rw [hcr]; exact (hm121.mp (by first | decide | omega))), hcr]; exact y123 j hj), Or.inl ⟨(dlc_2 hd).mpr (by rw [hcr]; exact (hm121.mp (by first | decide | omega))), rfl⟩⟩
    · refine en_u_ex (d := d + 5) rfl ?_
      show en_ex _ _ _ _ (0, [(0, gx_r 383), (1, .inl i)], [], t0, n, 0) _
      refine ex_go (S := (1, [(0, gx_r 383), (1, .inl i)], [gx_r 383], t0, n, 0)) rfl (fun _ => rfl) rfl ?_
      refine gx_ref (c := 396) rfl g0 rfl rfl rfl rfl ?_
      refine ex_go (S := (5, [(0, gx_r 383), (1, .inl i)], [.inl i, gx_r 396], t0, n, 0)) rfl (fun _ => rfl) rfl ?_
      refine gx_ag (v := .inl 2) (cb := fun c => Nat.beq c 0) rfl (fun _ => rfl) g0 rfl rfl r0 (by first | decide | omega) rfl ?_
      refine ex_go (S := (7, [(2, .inl 2), (0, gx_r 383), (1, .inl i)], [], t0, n, 0)) rfl (fun _ => rfl) rfl ?_
      refine ex_go (S := (8, [(2, .inl 2), (0, gx_r 383), (1, .inl i)], [gx_r 383], t0, n, 0)) rfl (fun _ => rfl) rfl ?_
      refine gx_ref (c := 396) rfl g0 rfl rfl rfl rfl ?_
      refine ex_go (S := (12, [(2, .inl 2), (0, gx_r 383), (1, .inl i)], [.inl i, gx_r 396], t0, n, 0)) rfl (fun _ => rfl) rfl ?_
      refine ex_go (S := (13, [(2, .inl 2), (0, gx_r 383), (1, .inl i)], [.inl 1, .inl i, gx_r 396], t0, n, 0)) rfl (fun _ => rfl) rfl ?_
      refine ex_iadd rfl (by first | decide | omega) rfl ?_
      refine gx_ag (v := .inl 1) (cb := fun c => Nat.beq c 0) rfl (fun _ => rfl) g0 rfl rfl r1 (by first | decide | omega) rfl ?_
      refine ex_go (S := (16, [(3, .inl 1), (2, .inl 2), (0, gx_r 383), (1, .inl i)], [], t0, n, 0)) rfl (fun _ => rfl) rfl ?_
      refine ex_go (S := (18, [(3, .inl 1), (2, .inl 2), (0, gx_r 383), (1, .inl i)], [.inl 8], t0, n, 0)) rfl (fun _ => rfl) rfl ?_
      refine ex_go (S := (19, [(3, .inl 1), (2, .inl 2), (0, gx_r 383), (1, .inl i)], [gx_r 383, .inl 8], t0, n, 0)) rfl (fun _ => rfl) rfl ?_
      refine gx_ref (c := 396) rfl g0 rfl rfl rfl rfl ?_
      refine ex_go (S := (23, [(3, .inl 1), (2, .inl 2), (0, gx_r 383), (1, .inl i)], [.inl i, gx_r 396, .inl 8], t0, n, 0)) rfl (fun _ => rfl) rfl ?_
      refine ex_go (S := (24, [(3, .inl 1), (2, .inl 2), (0, gx_r 383), (1, .inl i)], [.inl 3, .inl i, gx_r 396, .inl 8], t0, n, 0)) rfl (fun _ => rfl) rfl ?_
      refine ex_iadd rfl (by first | decide | omega) rfl ?_
      refine gx_ag (v := .inl m3) (cb := fun c => Nat.beq c 0) rfl (fun _ => rfl) g0 rfl rfl k3 (by first | decide | omega) rfl ?_
      refine gx_imulx rfl rfl ?_
      refine ex_go (S := (28, [(3, .inl 1), (2, .inl 2), (0, gx_r 383), (1, .inl i)], [gx_r 383, .inl (en_wrap (8 * m3))], t0, n, 0)) rfl (fun _ => rfl) rfl ?_
      refine gx_ref (c := 396) rfl g0 rfl rfl rfl rfl ?_
      refine ex_go (S := (32, [(3, .inl 1), (2, .inl 2), (0, gx_r 383), (1, .inl i)], [.inl i, gx_r 396, .inl (en_wrap (8 * m3))], t0, n, 0)) rfl (fun _ => rfl) rfl ?_
      refine ex_go (S := (33, [(3, .inl 1), (2, .inl 2), (0, gx_r 383), (1, .inl i)], [.inl 2, .inl i, gx_r 396, .inl (en_wrap (8 * m3))], t0, n, 0)) rfl (fun _ => rfl) rfl ?_
      refine ex_iadd rfl (by first | decide | omega) rfl ?_
      refine gx_ag (v := .inl d9.2.2) (cb := fun c => Nat.beq c 0) rfl (fun _ => rfl) g0 rfl rfl r2 (by first | decide | omega) rfl ?_
      refine gx_iaddx rfl rfl ?_
      refine ex_go (S := (38, [(4, .inl (en_wrap ((en_wrap (8 * m3)) + d9.2.2))), (3, .inl 1), (2, .inl 2), (0, gx_r 383), (1, .inl i)], [], t0, n, 0)) rfl (fun _ => rfl) rfl ?_
      refine ex_go (S := (39, [(4, .inl (en_wrap ((en_wrap (8 * m3)) + d9.2.2))), (3, .inl 1), (2, .inl 2), (0, gx_r 383), (1, .inl i)], [.inl 2], t0, n, 0)) rfl (fun _ => rfl) rfl ?_
      refine ex_go (S := (42, [(4, .inl (en_wrap ((en_wrap (8 * m3)) + d9.2.2))), (3, .inl 1), (2, .inl 2), (0, gx_r 383), (1, .inl i)], [], t0, n, 0)) rfl (fun _ => rfl) rfl ?_
      refine ex_go (S := (43, [(4, .inl (en_wrap ((en_wrap (8 * m3)) + d9.2.2))), (3, .inl 1), (2, .inl 2), (0, gx_r 383), (1, .inl i)], [.inl 2], t0, n, 0)) rfl (fun _ => rfl) rfl ?_
      refine ex_go (S := (44, [(4, .inl (en_wrap ((en_wrap (8 * m3)) + d9.2.2))), (3, .inl 1), (2, .inl 2), (0, gx_r 383), (1, .inl i)], [.inl 1, .inl 2], t0, n, 0)) rfl (fun _ => rfl) rfl ?_
      refine ex_go (S := (63, [(4, .inl (en_wrap ((en_wrap (8 * m3)) + d9.2.2))), (3, .inl 1), (2, .inl 2), (0, gx_r 383), (1, .inl i)], [], t0, n, 0)) rfl (fun _ => rfl) rfl ?_
      refine ex_go (S := (64, [(4, .inl (en_wrap ((en_wrap (8 * m3)) + d9.2.2))), (3, .inl 1), (2, .inl 2), (0, gx_r 383), (1, .inl i)], [.inl 2], t0, n, 0)) rfl (fun _ => rfl) rfl ?_
      refine ex_go (S := (65, [(4, .inl (en_wrap ((en_wrap (8 * m3)) + d9.2.2))), (3, .inl 1), (2, .inl 2), (0, gx_r 383), (1, .inl i)], [.inl 2, .inl 2], t0, n, 0)) rfl (fun _ => rfl) rfl ?_
      refine ex_go (S := (68, [(4, .inl (en_wrap ((en_wrap (8 * m3)) + d9.2.2))), (3, .inl 1), (2, .inl 2), (0, gx_r 383), (1, .inl i)], [], t0, n, 0)) rfl (fun _ => rfl) rfl ?_
      refine ex_go (S := (69, [(4, .inl (en_wrap ((en_wrap (8 * m3)) + d9.2.2))), (3, .inl 1), (2, .inl 2), (0, gx_r 383), (1, .inl i)], [gx_r 383], t0, n, 0)) rfl (fun _ => rfl) rfl ?_
      refine ex_go (S := (72, [(4, .inl (en_wrap ((en_wrap (8 * m3)) + d9.2.2))), (3, .inl 1), (2, .inl 2), (0, gx_r 383), (1, .inl i)], [.inl 945, gx_r 383], t0, n, 0)) rfl (fun _ => rfl) rfl ?_
      refine ex_go (S := (73, [(4, .inl (en_wrap ((en_wrap (8 * m3)) + d9.2.2))), (3, .inl 1), (2, .inl 2), (0, gx_r 383), (1, .inl i)], [.inl 1, .inl 945, gx_r 383], t0, n, 0)) rfl (fun _ => rfl) rfl ?_
      obtain ⟨_, r121, v121, rfl, hv121, hm121⟩ := sr_mayL945_1 (d + 3) n g0 hR hb (fun j hj => hσ j hj) hc9
      refine gx_call1 rfl rfl g0 rfl rfl r121 rfl ?_
      show en_ex _ _ _ _ (76, [(4, .inl (en_wrap ((en_wrap (8 * m3)) + d9.2.2))), (3, .inl 1), (2, .inl 2), (0, gx_r 383), (1, .inl i)], [.inl v121], t0, n, 0) _
      by_cases hc22 : v121 = 0
      · refine gx_1t (c := .eq) rfl (by first | decide | omega) hc22 rfl ?_
        refine ex_go (S := (98, [(4, .inl (en_wrap ((en_wrap (8 * m3)) + d9.2.2))), (3, .inl 1), (2, .inl 2), (0, gx_r 383), (1, .inl i)], [.inl 0], t0, n, 0)) rfl (fun _ => rfl) rfl ?_
        refine ex_go (S := (100, [(5, .inl 0), (4, .inl (en_wrap ((en_wrap (8 * m3)) + d9.2.2))), (3, .inl 1), (2, .inl 2), (0, gx_r 383), (1, .inl i)], [], t0, n, 0)) rfl (fun _ => rfl) rfl ?_
        refine ex_go (S := (102, [(5, .inl 0), (4, .inl (en_wrap ((en_wrap (8 * m3)) + d9.2.2))), (3, .inl 1), (2, .inl 2), (0, gx_r 383), (1, .inl i)], [.inl 0], t0, n, 0)) rfl (fun _ => rfl) rfl ?_
        refine ex_go (S := (135, [(5, .inl 0), (4, .inl (en_wrap ((en_wrap (8 * m3)) + d9.2.2))), (3, .inl 1), (2, .inl 2), (0, gx_r 383), (1, .inl i)], [], t0, n, 0)) rfl (fun _ => rfl) rfl ?_
        refine ex_go (S := (137, [(5, .inl 0), (4, .inl (en_wrap ((en_wrap (8 * m3)) + d9.2.2))), (3, .inl 1), (2, .inl 2), (0, gx_r 383), (1, .inl i)], [.inl 0], t0, n, 0)) rfl (fun _ => rfl) rfl ?_
        refine ex_go (S := (158, [(5, .inl 0), (4, .inl (en_wrap ((en_wrap (8 * m3)) + d9.2.2))), (3, .inl 1), (2, .inl 2), (0, gx_r 383), (1, .inl i)], [], t0, n, 0)) rfl (fun _ => rfl) rfl ?_
        refine ex_go (S := (160, [(5, .inl 0), (4, .inl (en_wrap ((en_wrap (8 * m3)) + d9.2.2))), (3, .inl 1), (2, .inl 2), (0, gx_r 383), (1, .inl i)], [.inl 0], t0, n, 0)) rfl (fun _ => rfl) rfl ?_
        refine ex_go (S := (188, [(5, .inl 0), (4, .inl (en_wrap ((en_wrap (8 * m3)) + d9.2.2))), (3, .inl 1), (2, .inl 2), (0, gx_r 383), (1, .inl i)], [], t0, n, 0)) rfl (fun _ => rfl) rfl ?_
        refine ex_go (S := (190, [(5, .inl 0), (4, .inl (en_wrap ((en_wrap (8 * m3)) + d9.2.2))), (3, .inl 1), (2, .inl 2), (0, gx_r 383), (1, .inl i)], [.inl 0], t0, n, 0)) rfl (fun _ => rfl) rfl ?_
        refine ex_go (S := (204, [(5, .inl 0), (4, .inl (en_wrap ((en_wrap (8 * m3)) + d9.2.2))), (3, .inl 1), (2, .inl 2), (0, gx_r 383), (1, .inl i)], [], t0, n, 0)) rfl (fun _ => rfl) rfl ?_
        refine ex_go (S := (206, [(5, .inl 0), (4, .inl (en_wrap ((en_wrap (8 * m3)) + d9.2.2))), (3, .inl 1), (2, .inl 2), (0, gx_r 383), (1, .inl i)], [.inl 0], t0, n, 0)) rfl (fun _ => rfl) rfl ?_
        refine ex_ret (r := (some (.inl 0), t0, n, 0)) rfl (fun _ => rfl) ?_
        have hno : ¬ dlc w σ d9 := fun z => by
          have z := (dlc_2 hd).mp z
          rw [hcr] at z
          have := hm121.mpr z
          omega
        exact ⟨_, rfl, 0, _, rfl, g0, (fun c i h => rfl), (fun j hj => by rw [dls_n hno]; exact hσ j hj), Or.inr ⟨hno, rfl⟩⟩
      · refine gx_1f (c := .eq) rfl (by first | decide | omega) hc22 rfl ?_
        refine ex_go (S := (93, [(4, .inl (en_wrap ((en_wrap (8 * m3)) + d9.2.2))), (3, .inl 1), (2, .inl 2), (0, gx_r 383), (1, .inl i)], [], t0, n, 0)) rfl (fun _ => rfl) rfl ?_
        refine ex_go (S := (94, [(4, .inl (en_wrap ((en_wrap (8 * m3)) + d9.2.2))), (3, .inl 1), (2, .inl 2), (0, gx_r 383), (1, .inl i)], [.inl 1], t0, n, 0)) rfl (fun _ => rfl) rfl ?_
        refine ex_go (S := (98, [(4, .inl (en_wrap ((en_wrap (8 * m3)) + d9.2.2))), (3, .inl 1), (2, .inl 2), (0, gx_r 383), (1, .inl i)], [.inl 1], t0, n, 0)) rfl (fun _ => rfl) rfl ?_
        refine ex_go (S := (100, [(5, .inl 1), (4, .inl (en_wrap ((en_wrap (8 * m3)) + d9.2.2))), (3, .inl 1), (2, .inl 2), (0, gx_r 383), (1, .inl i)], [], t0, n, 0)) rfl (fun _ => rfl) rfl ?_
        refine ex_go (S := (102, [(5, .inl 1), (4, .inl (en_wrap ((en_wrap (8 * m3)) + d9.2.2))), (3, .inl 1), (2, .inl 2), (0, gx_r 383), (1, .inl i)], [.inl 1], t0, n, 0)) rfl (fun _ => rfl) rfl ?_
        refine ex_go (S := (105, [(5, .inl 1), (4, .inl (en_wrap ((en_wrap (8 * m3)) + d9.2.2))), (3, .inl 1), (2, .inl 2), (0, gx_r 383), (1, .inl i)], [], t0, n, 0)) rfl (fun _ => rfl) rfl ?_
        refine ex_go (S := (106, [(5, .inl 1), (4, .inl (en_wrap ((en_wrap (8 * m3)) + d9.2.2))), (3, .inl 1), (2, .inl 2), (0, gx_r 383), (1, .inl i)], [.inl 2], t0, n, 0)) rfl (fun _ => rfl) rfl ?_
        refine ex_go (S := (135, [(5, .inl 1), (4, .inl (en_wrap ((en_wrap (8 * m3)) + d9.2.2))), (3, .inl 1), (2, .inl 2), (0, gx_r 383), (1, .inl i)], [], t0, n, 0)) rfl (fun _ => rfl) rfl ?_
        refine ex_go (S := (137, [(5, .inl 1), (4, .inl (en_wrap ((en_wrap (8 * m3)) + d9.2.2))), (3, .inl 1), (2, .inl 2), (0, gx_r 383), (1, .inl i)], [.inl 1], t0, n, 0)) rfl (fun _ => rfl) rfl ?_
        refine ex_go (S := (140, [(5, .inl 1), (4, .inl (en_wrap ((en_wrap (8 * m3)) + d9.2.2))), (3, .inl 1), (2, .inl 2), (0, gx_r 383), (1, .inl i)], [], t0, n, 0)) rfl (fun _ => rfl) rfl ?_
        refine ex_go (S := (141, [(5, .inl 1), (4, .inl (en_wrap ((en_wrap (8 * m3)) + d9.2.2))), (3, .inl 1), (2, .inl 2), (0, gx_r 383), (1, .inl i)], [.inl 2], t0, n, 0)) rfl (fun _ => rfl) rfl ?_
        refine ex_go (S := (142, [(5, .inl 1), (4, .inl (en_wrap ((en_wrap (8 * m3)) + d9.2.2))), (3, .inl 1), (2, .inl 2), (0, gx_r 383), (1, .inl i)], [.inl 1, .inl 2], t0, n, 0)) rfl (fun _ => rfl) rfl ?_
        refine ex_go (S := (158, [(5, .inl 1), (4, .inl (en_wrap ((en_wrap (8 * m3)) + d9.2.2))), (3, .inl 1), (2, .inl 2), (0, gx_r 383), (1, .inl i)], [], t0, n, 0)) rfl (fun _ => rfl) rfl ?_
        refine ex_go (S := (160, [(5, .inl 1), (4, .inl (en_wrap ((en_wrap (8 * m3)) + d9.2.2))), (3, .inl 1), (2, .inl 2), (0, gx_r 383), (1, .inl i)], [.inl 1], t0, n, 0)) rfl (fun _ => rfl) rfl ?_
        refine ex_go (S := (163, [(5, .inl 1), (4, .inl (en_wrap ((en_wrap (8 * m3)) + d9.2.2))), (3, .inl 1), (2, .inl 2), (0, gx_r 383), (1, .inl i)], [], t0, n, 0)) rfl (fun _ => rfl) rfl ?_
        refine ex_go (S := (164, [(5, .inl 1), (4, .inl (en_wrap ((en_wrap (8 * m3)) + d9.2.2))), (3, .inl 1), (2, .inl 2), (0, gx_r 383), (1, .inl i)], [.inl 2], t0, n, 0)) rfl (fun _ => rfl) rfl ?_
        refine ex_go (S := (165, [(5, .inl 1), (4, .inl (en_wrap ((en_wrap (8 * m3)) + d9.2.2))), (3, .inl 1), (2, .inl 2), (0, gx_r 383), (1, .inl i)], [.inl 2, .inl 2], t0, n, 0)) rfl (fun _ => rfl) rfl ?_
        refine ex_go (S := (168, [(5, .inl 1), (4, .inl (en_wrap ((en_wrap (8 * m3)) + d9.2.2))), (3, .inl 1), (2, .inl 2), (0, gx_r 383), (1, .inl i)], [], t0, n, 0)) rfl (fun _ => rfl) rfl ?_
        refine ex_go (S := (169, [(5, .inl 1), (4, .inl (en_wrap ((en_wrap (8 * m3)) + d9.2.2))), (3, .inl 1), (2, .inl 2), (0, gx_r 383), (1, .inl i)], [gx_r 383], t0, n, 0)) rfl (fun _ => rfl) rfl ?_
        refine ex_go (S := (172, [(5, .inl 1), (4, .inl (en_wrap ((en_wrap (8 * m3)) + d9.2.2))), (3, .inl 1), (2, .inl 2), (0, gx_r 383), (1, .inl i)], [.inl 945, gx_r 383], t0, n, 0)) rfl (fun _ => rfl) rfl ?_
        refine ex_go (S := (173, [(5, .inl 1), (4, .inl (en_wrap ((en_wrap (8 * m3)) + d9.2.2))), (3, .inl 1), (2, .inl 2), (0, gx_r 383), (1, .inl i)], [.inl 1, .inl 945, gx_r 383], t0, n, 0)) rfl (fun _ => rfl) rfl ?_
        refine ex_go (S := (174, [(5, .inl 1), (4, .inl (en_wrap ((en_wrap (8 * m3)) + d9.2.2))), (3, .inl 1), (2, .inl 2), (0, gx_r 383), (1, .inl i)], [gx_r 383, .inl 1, .inl 945, gx_r 383], t0, n, 0)) rfl (fun _ => rfl) rfl ?_
        refine gx_ref (c := 396) rfl g0 rfl rfl rfl rfl ?_
        refine ex_go (S := (178, [(5, .inl 1), (4, .inl (en_wrap ((en_wrap (8 * m3)) + d9.2.2))), (3, .inl 1), (2, .inl 2), (0, gx_r 383), (1, .inl i)], [.inl i, gx_r 396, .inl 1, .inl 945, gx_r 383], t0, n, 0)) rfl (fun _ => rfl) rfl ?_
        refine ex_go (S := (179, [(5, .inl 1), (4, .inl (en_wrap ((en_wrap (8 * m3)) + d9.2.2))), (3, .inl 1), (2, .inl 2), (0, gx_r 383), (1, .inl i)], [.inl 2, .inl i, gx_r 396, .inl 1, .inl 945, gx_r 383], t0, n, 0)) rfl (fun _ => rfl) rfl ?_
        refine ex_iadd rfl (by first | decide | omega) rfl ?_
        refine gx_ag (v := .inl d9.2.2) (cb := fun c => Nat.beq c 0) rfl (fun _ => rfl) g0 rfl rfl r2 (by first | decide | omega) rfl ?_
        obtain ⟨_, r123, t123, rfl, g123, e123, y123⟩ := sr_lends945_1 (w := w) (L := L) (d + 4) n (v := d9.2.2) g0 hb hsum (fun j hj => hσ j hj) hv
        refine gx_call1 rfl rfl g0 rfl rfl r123 rfl ?_
        have k24 : ai_hv t123 396 i = some (.inl 2) := (e123 396 i (by first | decide | omega)).trans r0
        have k25 : ai_hv t123 396 (i + 1) = some (.inl 1) := (e123 396 (i + 1) (by first | decide | omega)).trans r1
        have k26 : ai_hv t123 396 (i + 2) = some (.inl d9.2.2) := (e123 396 (i + 2) (by first | decide | omega)).trans r2
        have k27 : ai_hv t123 396 (i + 3) = some (.inl m3) := (e123 396 (i + 3) (by first | decide | omega)).trans k3
        show en_ex _ _ _ _ (184, [(5, .inl 1), (4, .inl (en_wrap ((en_wrap (8 * m3)) + d9.2.2))), (3, .inl 1), (2, .inl 2), (0, gx_r 383), (1, .inl i)], [.inl (lnv σ 1 d9.2.2)], t123, n, 0) _
        refine gs_pop rfl rfl rfl ?_
        refine ex_go (S := (204, [(5, .inl 1), (4, .inl (en_wrap ((en_wrap (8 * m3)) + d9.2.2))), (3, .inl 1), (2, .inl 2), (0, gx_r 383), (1, .inl i)], [], t123, n, 0)) rfl (fun _ => rfl) rfl ?_
        refine ex_go (S := (206, [(5, .inl 1), (4, .inl (en_wrap ((en_wrap (8 * m3)) + d9.2.2))), (3, .inl 1), (2, .inl 2), (0, gx_r 383), (1, .inl i)], [.inl 1], t123, n, 0)) rfl (fun _ => rfl) rfl ?_
        refine ex_ret (r := (some (.inl 1), t123, n, 0)) rfl (fun _ => rfl) ?_
        exact ⟨_, rfl, 1, _, rfl, g123, (fun c i h => e123 c i (by first | decide | omega)), (fun j hj => by rw [dls_2 hd (by rw [hcr]; exact (hm121.mp (by first | decide | omega))), hcr]; exact y123 j hj), Or.inl ⟨(dlc_2 hd).mpr (by rw [hcr]; exact (hm121.mp (by first | decide | omega))), rfl⟩⟩
  · rcases (show d9.2.1 = 0 ∨ d9.2.1 = 1 by omega) with hcr | hcr <;> rw [hcr] at r1 hc9
    · refine en_u_ex (d := d + 5) rfl ?_
      show en_ex _ _ _ _ (0, [(0, gx_r 383), (1, .inl i)], [], t0, n, 0) _
      refine ex_go (S := (1, [(0, gx_r 383), (1, .inl i)], [gx_r 383], t0, n, 0)) rfl (fun _ => rfl) rfl ?_
      refine gx_ref (c := 396) rfl g0 rfl rfl rfl rfl ?_
      refine ex_go (S := (5, [(0, gx_r 383), (1, .inl i)], [.inl i, gx_r 396], t0, n, 0)) rfl (fun _ => rfl) rfl ?_
      refine gx_ag (v := .inl 3) (cb := fun c => Nat.beq c 0) rfl (fun _ => rfl) g0 rfl rfl r0 (by first | decide | omega) rfl ?_
      refine ex_go (S := (7, [(2, .inl 3), (0, gx_r 383), (1, .inl i)], [], t0, n, 0)) rfl (fun _ => rfl) rfl ?_
      refine ex_go (S := (8, [(2, .inl 3), (0, gx_r 383), (1, .inl i)], [gx_r 383], t0, n, 0)) rfl (fun _ => rfl) rfl ?_
      refine gx_ref (c := 396) rfl g0 rfl rfl rfl rfl ?_
      refine ex_go (S := (12, [(2, .inl 3), (0, gx_r 383), (1, .inl i)], [.inl i, gx_r 396], t0, n, 0)) rfl (fun _ => rfl) rfl ?_
      refine ex_go (S := (13, [(2, .inl 3), (0, gx_r 383), (1, .inl i)], [.inl 1, .inl i, gx_r 396], t0, n, 0)) rfl (fun _ => rfl) rfl ?_
      refine ex_iadd rfl (by first | decide | omega) rfl ?_
      refine gx_ag (v := .inl 0) (cb := fun c => Nat.beq c 0) rfl (fun _ => rfl) g0 rfl rfl r1 (by first | decide | omega) rfl ?_
      refine ex_go (S := (16, [(3, .inl 0), (2, .inl 3), (0, gx_r 383), (1, .inl i)], [], t0, n, 0)) rfl (fun _ => rfl) rfl ?_
      refine ex_go (S := (18, [(3, .inl 0), (2, .inl 3), (0, gx_r 383), (1, .inl i)], [.inl 8], t0, n, 0)) rfl (fun _ => rfl) rfl ?_
      refine ex_go (S := (19, [(3, .inl 0), (2, .inl 3), (0, gx_r 383), (1, .inl i)], [gx_r 383, .inl 8], t0, n, 0)) rfl (fun _ => rfl) rfl ?_
      refine gx_ref (c := 396) rfl g0 rfl rfl rfl rfl ?_
      refine ex_go (S := (23, [(3, .inl 0), (2, .inl 3), (0, gx_r 383), (1, .inl i)], [.inl i, gx_r 396, .inl 8], t0, n, 0)) rfl (fun _ => rfl) rfl ?_
      refine ex_go (S := (24, [(3, .inl 0), (2, .inl 3), (0, gx_r 383), (1, .inl i)], [.inl 3, .inl i, gx_r 396, .inl 8], t0, n, 0)) rfl (fun _ => rfl) rfl ?_
      refine ex_iadd rfl (by first | decide | omega) rfl ?_
      refine gx_ag (v := .inl m3) (cb := fun c => Nat.beq c 0) rfl (fun _ => rfl) g0 rfl rfl k3 (by first | decide | omega) rfl ?_
      refine gx_imulx rfl rfl ?_
      refine ex_go (S := (28, [(3, .inl 0), (2, .inl 3), (0, gx_r 383), (1, .inl i)], [gx_r 383, .inl (en_wrap (8 * m3))], t0, n, 0)) rfl (fun _ => rfl) rfl ?_
      refine gx_ref (c := 396) rfl g0 rfl rfl rfl rfl ?_
      refine ex_go (S := (32, [(3, .inl 0), (2, .inl 3), (0, gx_r 383), (1, .inl i)], [.inl i, gx_r 396, .inl (en_wrap (8 * m3))], t0, n, 0)) rfl (fun _ => rfl) rfl ?_
      refine ex_go (S := (33, [(3, .inl 0), (2, .inl 3), (0, gx_r 383), (1, .inl i)], [.inl 2, .inl i, gx_r 396, .inl (en_wrap (8 * m3))], t0, n, 0)) rfl (fun _ => rfl) rfl ?_
      refine ex_iadd rfl (by first | decide | omega) rfl ?_
      refine gx_ag (v := .inl m2) (cb := fun c => Nat.beq c 0) rfl (fun _ => rfl) g0 rfl rfl k2 (by first | decide | omega) rfl ?_
      refine gx_iaddx rfl rfl ?_
      refine ex_go (S := (38, [(4, .inl (en_wrap ((en_wrap (8 * m3)) + m2))), (3, .inl 0), (2, .inl 3), (0, gx_r 383), (1, .inl i)], [], t0, n, 0)) rfl (fun _ => rfl) rfl ?_
      refine ex_go (S := (39, [(4, .inl (en_wrap ((en_wrap (8 * m3)) + m2))), (3, .inl 0), (2, .inl 3), (0, gx_r 383), (1, .inl i)], [.inl 3], t0, n, 0)) rfl (fun _ => rfl) rfl ?_
      refine ex_go (S := (42, [(4, .inl (en_wrap ((en_wrap (8 * m3)) + m2))), (3, .inl 0), (2, .inl 3), (0, gx_r 383), (1, .inl i)], [], t0, n, 0)) rfl (fun _ => rfl) rfl ?_
      refine ex_go (S := (43, [(4, .inl (en_wrap ((en_wrap (8 * m3)) + m2))), (3, .inl 0), (2, .inl 3), (0, gx_r 383), (1, .inl i)], [.inl 3], t0, n, 0)) rfl (fun _ => rfl) rfl ?_
      refine ex_go (S := (44, [(4, .inl (en_wrap ((en_wrap (8 * m3)) + m2))), (3, .inl 0), (2, .inl 3), (0, gx_r 383), (1, .inl i)], [.inl 1, .inl 3], t0, n, 0)) rfl (fun _ => rfl) rfl ?_
      refine ex_go (S := (63, [(4, .inl (en_wrap ((en_wrap (8 * m3)) + m2))), (3, .inl 0), (2, .inl 3), (0, gx_r 383), (1, .inl i)], [], t0, n, 0)) rfl (fun _ => rfl) rfl ?_
      refine ex_go (S := (64, [(4, .inl (en_wrap ((en_wrap (8 * m3)) + m2))), (3, .inl 0), (2, .inl 3), (0, gx_r 383), (1, .inl i)], [.inl 3], t0, n, 0)) rfl (fun _ => rfl) rfl ?_
      refine ex_go (S := (65, [(4, .inl (en_wrap ((en_wrap (8 * m3)) + m2))), (3, .inl 0), (2, .inl 3), (0, gx_r 383), (1, .inl i)], [.inl 2, .inl 3], t0, n, 0)) rfl (fun _ => rfl) rfl ?_
      refine ex_go (S := (82, [(4, .inl (en_wrap ((en_wrap (8 * m3)) + m2))), (3, .inl 0), (2, .inl 3), (0, gx_r 383), (1, .inl i)], [], t0, n, 0)) rfl (fun _ => rfl) rfl ?_
      refine ex_go (S := (83, [(4, .inl (en_wrap ((en_wrap (8 * m3)) + m2))), (3, .inl 0), (2, .inl 3), (0, gx_r 383), (1, .inl i)], [gx_r 383], t0, n, 0)) rfl (fun _ => rfl) rfl ?_
      refine ex_go (S := (86, [(4, .inl (en_wrap ((en_wrap (8 * m3)) + m2))), (3, .inl 0), (2, .inl 3), (0, gx_r 383), (1, .inl i)], [.inl 945, gx_r 383], t0, n, 0)) rfl (fun _ => rfl) rfl ?_
      refine ex_go (S := (87, [(4, .inl (en_wrap ((en_wrap (8 * m3)) + m2))), (3, .inl 0), (2, .inl 3), (0, gx_r 383), (1, .inl i)], [.inl 0, .inl 945, gx_r 383], t0, n, 0)) rfl (fun _ => rfl) rfl ?_
      obtain ⟨_, r121, v121, rfl, hv121, hm121⟩ := sr_mayM945_0 (d + 3) n g0 hR hb (fun j hj => hσ j hj) hc9
      refine gx_call1 rfl rfl g0 rfl rfl r121 rfl ?_
      show en_ex _ _ _ _ (90, [(4, .inl (en_wrap ((en_wrap (8 * m3)) + m2))), (3, .inl 0), (2, .inl 3), (0, gx_r 383), (1, .inl i)], [.inl v121], t0, n, 0) _
      by_cases hc22 : v121 = 0
      · refine gx_1t (c := .eq) rfl (by first | decide | omega) hc22 rfl ?_
        refine ex_go (S := (98, [(4, .inl (en_wrap ((en_wrap (8 * m3)) + m2))), (3, .inl 0), (2, .inl 3), (0, gx_r 383), (1, .inl i)], [.inl 0], t0, n, 0)) rfl (fun _ => rfl) rfl ?_
        refine ex_go (S := (100, [(5, .inl 0), (4, .inl (en_wrap ((en_wrap (8 * m3)) + m2))), (3, .inl 0), (2, .inl 3), (0, gx_r 383), (1, .inl i)], [], t0, n, 0)) rfl (fun _ => rfl) rfl ?_
        refine ex_go (S := (102, [(5, .inl 0), (4, .inl (en_wrap ((en_wrap (8 * m3)) + m2))), (3, .inl 0), (2, .inl 3), (0, gx_r 383), (1, .inl i)], [.inl 0], t0, n, 0)) rfl (fun _ => rfl) rfl ?_
        refine ex_go (S := (135, [(5, .inl 0), (4, .inl (en_wrap ((en_wrap (8 * m3)) + m2))), (3, .inl 0), (2, .inl 3), (0, gx_r 383), (1, .inl i)], [], t0, n, 0)) rfl (fun _ => rfl) rfl ?_
        refine ex_go (S := (137, [(5, .inl 0), (4, .inl (en_wrap ((en_wrap (8 * m3)) + m2))), (3, .inl 0), (2, .inl 3), (0, gx_r 383), (1, .inl i)], [.inl 0], t0, n, 0)) rfl (fun _ => rfl) rfl ?_
        refine ex_go (S := (158, [(5, .inl 0), (4, .inl (en_wrap ((en_wrap (8 * m3)) + m2))), (3, .inl 0), (2, .inl 3), (0, gx_r 383), (1, .inl i)], [], t0, n, 0)) rfl (fun _ => rfl) rfl ?_
        refine ex_go (S := (160, [(5, .inl 0), (4, .inl (en_wrap ((en_wrap (8 * m3)) + m2))), (3, .inl 0), (2, .inl 3), (0, gx_r 383), (1, .inl i)], [.inl 0], t0, n, 0)) rfl (fun _ => rfl) rfl ?_
        refine ex_go (S := (188, [(5, .inl 0), (4, .inl (en_wrap ((en_wrap (8 * m3)) + m2))), (3, .inl 0), (2, .inl 3), (0, gx_r 383), (1, .inl i)], [], t0, n, 0)) rfl (fun _ => rfl) rfl ?_
        refine ex_go (S := (190, [(5, .inl 0), (4, .inl (en_wrap ((en_wrap (8 * m3)) + m2))), (3, .inl 0), (2, .inl 3), (0, gx_r 383), (1, .inl i)], [.inl 0], t0, n, 0)) rfl (fun _ => rfl) rfl ?_
        refine ex_go (S := (204, [(5, .inl 0), (4, .inl (en_wrap ((en_wrap (8 * m3)) + m2))), (3, .inl 0), (2, .inl 3), (0, gx_r 383), (1, .inl i)], [], t0, n, 0)) rfl (fun _ => rfl) rfl ?_
        refine ex_go (S := (206, [(5, .inl 0), (4, .inl (en_wrap ((en_wrap (8 * m3)) + m2))), (3, .inl 0), (2, .inl 3), (0, gx_r 383), (1, .inl i)], [.inl 0], t0, n, 0)) rfl (fun _ => rfl) rfl ?_
        refine ex_ret (r := (some (.inl 0), t0, n, 0)) rfl (fun _ => rfl) ?_
        have hno : ¬ dlc w σ d9 := fun z => by
          have z := (dlc_3 hd).mp z
          rw [hcr] at z
          have := hm121.mpr z
          omega
        exact ⟨_, rfl, 0, _, rfl, g0, (fun c i h => rfl), (fun j hj => by rw [dls_n hno]; exact hσ j hj), Or.inr ⟨hno, rfl⟩⟩
      · refine gx_1f (c := .eq) rfl (by first | decide | omega) hc22 rfl ?_
        refine ex_go (S := (94, [(4, .inl (en_wrap ((en_wrap (8 * m3)) + m2))), (3, .inl 0), (2, .inl 3), (0, gx_r 383), (1, .inl i)], [.inl 1], t0, n, 0)) rfl (fun _ => rfl) rfl ?_
        refine ex_go (S := (98, [(4, .inl (en_wrap ((en_wrap (8 * m3)) + m2))), (3, .inl 0), (2, .inl 3), (0, gx_r 383), (1, .inl i)], [.inl 1], t0, n, 0)) rfl (fun _ => rfl) rfl ?_
        refine ex_go (S := (100, [(5, .inl 1), (4, .inl (en_wrap ((en_wrap (8 * m3)) + m2))), (3, .inl 0), (2, .inl 3), (0, gx_r 383), (1, .inl i)], [], t0, n, 0)) rfl (fun _ => rfl) rfl ?_
        refine ex_go (S := (102, [(5, .inl 1), (4, .inl (en_wrap ((en_wrap (8 * m3)) + m2))), (3, .inl 0), (2, .inl 3), (0, gx_r 383), (1, .inl i)], [.inl 1], t0, n, 0)) rfl (fun _ => rfl) rfl ?_
        refine ex_go (S := (105, [(5, .inl 1), (4, .inl (en_wrap ((en_wrap (8 * m3)) + m2))), (3, .inl 0), (2, .inl 3), (0, gx_r 383), (1, .inl i)], [], t0, n, 0)) rfl (fun _ => rfl) rfl ?_
        refine ex_go (S := (106, [(5, .inl 1), (4, .inl (en_wrap ((en_wrap (8 * m3)) + m2))), (3, .inl 0), (2, .inl 3), (0, gx_r 383), (1, .inl i)], [.inl 3], t0, n, 0)) rfl (fun _ => rfl) rfl ?_
        refine ex_go (S := (135, [(5, .inl 1), (4, .inl (en_wrap ((en_wrap (8 * m3)) + m2))), (3, .inl 0), (2, .inl 3), (0, gx_r 383), (1, .inl i)], [], t0, n, 0)) rfl (fun _ => rfl) rfl ?_
        refine ex_go (S := (137, [(5, .inl 1), (4, .inl (en_wrap ((en_wrap (8 * m3)) + m2))), (3, .inl 0), (2, .inl 3), (0, gx_r 383), (1, .inl i)], [.inl 1], t0, n, 0)) rfl (fun _ => rfl) rfl ?_
        refine ex_go (S := (140, [(5, .inl 1), (4, .inl (en_wrap ((en_wrap (8 * m3)) + m2))), (3, .inl 0), (2, .inl 3), (0, gx_r 383), (1, .inl i)], [], t0, n, 0)) rfl (fun _ => rfl) rfl ?_
        refine ex_go (S := (141, [(5, .inl 1), (4, .inl (en_wrap ((en_wrap (8 * m3)) + m2))), (3, .inl 0), (2, .inl 3), (0, gx_r 383), (1, .inl i)], [.inl 3], t0, n, 0)) rfl (fun _ => rfl) rfl ?_
        refine ex_go (S := (142, [(5, .inl 1), (4, .inl (en_wrap ((en_wrap (8 * m3)) + m2))), (3, .inl 0), (2, .inl 3), (0, gx_r 383), (1, .inl i)], [.inl 1, .inl 3], t0, n, 0)) rfl (fun _ => rfl) rfl ?_
        refine ex_go (S := (158, [(5, .inl 1), (4, .inl (en_wrap ((en_wrap (8 * m3)) + m2))), (3, .inl 0), (2, .inl 3), (0, gx_r 383), (1, .inl i)], [], t0, n, 0)) rfl (fun _ => rfl) rfl ?_
        refine ex_go (S := (160, [(5, .inl 1), (4, .inl (en_wrap ((en_wrap (8 * m3)) + m2))), (3, .inl 0), (2, .inl 3), (0, gx_r 383), (1, .inl i)], [.inl 1], t0, n, 0)) rfl (fun _ => rfl) rfl ?_
        refine ex_go (S := (163, [(5, .inl 1), (4, .inl (en_wrap ((en_wrap (8 * m3)) + m2))), (3, .inl 0), (2, .inl 3), (0, gx_r 383), (1, .inl i)], [], t0, n, 0)) rfl (fun _ => rfl) rfl ?_
        refine ex_go (S := (164, [(5, .inl 1), (4, .inl (en_wrap ((en_wrap (8 * m3)) + m2))), (3, .inl 0), (2, .inl 3), (0, gx_r 383), (1, .inl i)], [.inl 3], t0, n, 0)) rfl (fun _ => rfl) rfl ?_
        refine ex_go (S := (165, [(5, .inl 1), (4, .inl (en_wrap ((en_wrap (8 * m3)) + m2))), (3, .inl 0), (2, .inl 3), (0, gx_r 383), (1, .inl i)], [.inl 2, .inl 3], t0, n, 0)) rfl (fun _ => rfl) rfl ?_
        refine ex_go (S := (188, [(5, .inl 1), (4, .inl (en_wrap ((en_wrap (8 * m3)) + m2))), (3, .inl 0), (2, .inl 3), (0, gx_r 383), (1, .inl i)], [], t0, n, 0)) rfl (fun _ => rfl) rfl ?_
        refine ex_go (S := (190, [(5, .inl 1), (4, .inl (en_wrap ((en_wrap (8 * m3)) + m2))), (3, .inl 0), (2, .inl 3), (0, gx_r 383), (1, .inl i)], [.inl 1], t0, n, 0)) rfl (fun _ => rfl) rfl ?_
        refine ex_go (S := (193, [(5, .inl 1), (4, .inl (en_wrap ((en_wrap (8 * m3)) + m2))), (3, .inl 0), (2, .inl 3), (0, gx_r 383), (1, .inl i)], [], t0, n, 0)) rfl (fun _ => rfl) rfl ?_
        refine ex_go (S := (194, [(5, .inl 1), (4, .inl (en_wrap ((en_wrap (8 * m3)) + m2))), (3, .inl 0), (2, .inl 3), (0, gx_r 383), (1, .inl i)], [gx_r 383], t0, n, 0)) rfl (fun _ => rfl) rfl ?_
        refine gx_ref (c := 399) rfl g0 rfl rfl rfl rfl ?_
        refine ex_go (S := (200, [(5, .inl 1), (4, .inl (en_wrap ((en_wrap (8 * m3)) + m2))), (3, .inl 0), (2, .inl 3), (0, gx_r 383), (1, .inl i)], [.inl 956, gx_r 399], t0, n, 0)) rfl (fun _ => rfl) rfl ?_
        refine ex_go (S := (201, [(5, .inl 1), (4, .inl (en_wrap ((en_wrap (8 * m3)) + m2))), (3, .inl 0), (2, .inl 3), (0, gx_r 383), (1, .inl i)], [.inl 0, .inl 956, gx_r 399], t0, n, 0)) rfl (fun _ => rfl) rfl ?_
        refine ex_go (S := (202, [(5, .inl 1), (4, .inl (en_wrap ((en_wrap (8 * m3)) + m2))), (3, .inl 0), (2, .inl 3), (0, gx_r 383), (1, .inl i)], [.inl 956, gx_r 399], t0, n, 0)) rfl (fun _ => rfl) rfl ?_
        refine ex_go (S := (203, [(5, .inl 1), (4, .inl (en_wrap ((en_wrap (8 * m3)) + m2))), (3, .inl 0), (2, .inl 3), (0, gx_r 383), (1, .inl i)], [.inl 0, .inl 956, gx_r 399], t0, n, 0)) rfl (fun _ => rfl) rfl ?_
        refine gx_ap rfl (fun _ => rfl) g0 rfl rfl rfl (show 956 < 1035 from by omega) rfl (ai_in_h (by first | decide | omega) (by first | decide | omega) (by first | decide | omega)) rfl (fun t123 g123 k123 e123 => ?_)
        have k24 : ai_hv t123 396 i = some (.inl 3) := (e123 396 i (by first | decide | omega)).trans r0
        have k25 : ai_hv t123 396 (i + 1) = some (.inl 0) := (e123 396 (i + 1) (by first | decide | omega)).trans r1
        have k26 : ai_hv t123 396 (i + 2) = some (.inl m2) := (e123 396 (i + 2) (by first | decide | omega)).trans k2
        have k27 : ai_hv t123 396 (i + 3) = some (.inl m3) := (e123 396 (i + 3) (by first | decide | omega)).trans k3
        refine ex_go (S := (206, [(5, .inl 1), (4, .inl (en_wrap ((en_wrap (8 * m3)) + m2))), (3, .inl 0), (2, .inl 3), (0, gx_r 383), (1, .inl i)], [.inl 1], t123, n, 0)) rfl (fun _ => rfl) rfl ?_
        refine ex_ret (r := (some (.inl 1), t123, n, 0)) rfl (fun _ => rfl) ?_
        exact ⟨_, rfl, 1, _, rfl, g123, (fun c i h => e123 c i (by first | decide | omega)), (fun j hj => by
          rw [dls_3 hd (by rw [hcr]; exact (hm121.mp (by first | decide | omega))), hcr]
          by_cases e9 : j = 11
          · subst e9; exact k123
          · rw [show sgM' σ 0 j = σ j from if_neg e9]; exact (e123 399 _ (by first | decide | omega)).trans (hσ j hj)), Or.inl ⟨(dlc_3 hd).mpr (by rw [hcr]; exact (hm121.mp (by first | decide | omega))), rfl⟩⟩
    · refine en_u_ex (d := d + 5) rfl ?_
      show en_ex _ _ _ _ (0, [(0, gx_r 383), (1, .inl i)], [], t0, n, 0) _
      refine ex_go (S := (1, [(0, gx_r 383), (1, .inl i)], [gx_r 383], t0, n, 0)) rfl (fun _ => rfl) rfl ?_
      refine gx_ref (c := 396) rfl g0 rfl rfl rfl rfl ?_
      refine ex_go (S := (5, [(0, gx_r 383), (1, .inl i)], [.inl i, gx_r 396], t0, n, 0)) rfl (fun _ => rfl) rfl ?_
      refine gx_ag (v := .inl 3) (cb := fun c => Nat.beq c 0) rfl (fun _ => rfl) g0 rfl rfl r0 (by first | decide | omega) rfl ?_
      refine ex_go (S := (7, [(2, .inl 3), (0, gx_r 383), (1, .inl i)], [], t0, n, 0)) rfl (fun _ => rfl) rfl ?_
      refine ex_go (S := (8, [(2, .inl 3), (0, gx_r 383), (1, .inl i)], [gx_r 383], t0, n, 0)) rfl (fun _ => rfl) rfl ?_
      refine gx_ref (c := 396) rfl g0 rfl rfl rfl rfl ?_
      refine ex_go (S := (12, [(2, .inl 3), (0, gx_r 383), (1, .inl i)], [.inl i, gx_r 396], t0, n, 0)) rfl (fun _ => rfl) rfl ?_
      refine ex_go (S := (13, [(2, .inl 3), (0, gx_r 383), (1, .inl i)], [.inl 1, .inl i, gx_r 396], t0, n, 0)) rfl (fun _ => rfl) rfl ?_
      refine ex_iadd rfl (by first | decide | omega) rfl ?_
      refine gx_ag (v := .inl 1) (cb := fun c => Nat.beq c 0) rfl (fun _ => rfl) g0 rfl rfl r1 (by first | decide | omega) rfl ?_
      refine ex_go (S := (16, [(3, .inl 1), (2, .inl 3), (0, gx_r 383), (1, .inl i)], [], t0, n, 0)) rfl (fun _ => rfl) rfl ?_
      refine ex_go (S := (18, [(3, .inl 1), (2, .inl 3), (0, gx_r 383), (1, .inl i)], [.inl 8], t0, n, 0)) rfl (fun _ => rfl) rfl ?_
      refine ex_go (S := (19, [(3, .inl 1), (2, .inl 3), (0, gx_r 383), (1, .inl i)], [gx_r 383, .inl 8], t0, n, 0)) rfl (fun _ => rfl) rfl ?_
      refine gx_ref (c := 396) rfl g0 rfl rfl rfl rfl ?_
      refine ex_go (S := (23, [(3, .inl 1), (2, .inl 3), (0, gx_r 383), (1, .inl i)], [.inl i, gx_r 396, .inl 8], t0, n, 0)) rfl (fun _ => rfl) rfl ?_
      refine ex_go (S := (24, [(3, .inl 1), (2, .inl 3), (0, gx_r 383), (1, .inl i)], [.inl 3, .inl i, gx_r 396, .inl 8], t0, n, 0)) rfl (fun _ => rfl) rfl ?_
      refine ex_iadd rfl (by first | decide | omega) rfl ?_
      refine gx_ag (v := .inl m3) (cb := fun c => Nat.beq c 0) rfl (fun _ => rfl) g0 rfl rfl k3 (by first | decide | omega) rfl ?_
      refine gx_imulx rfl rfl ?_
      refine ex_go (S := (28, [(3, .inl 1), (2, .inl 3), (0, gx_r 383), (1, .inl i)], [gx_r 383, .inl (en_wrap (8 * m3))], t0, n, 0)) rfl (fun _ => rfl) rfl ?_
      refine gx_ref (c := 396) rfl g0 rfl rfl rfl rfl ?_
      refine ex_go (S := (32, [(3, .inl 1), (2, .inl 3), (0, gx_r 383), (1, .inl i)], [.inl i, gx_r 396, .inl (en_wrap (8 * m3))], t0, n, 0)) rfl (fun _ => rfl) rfl ?_
      refine ex_go (S := (33, [(3, .inl 1), (2, .inl 3), (0, gx_r 383), (1, .inl i)], [.inl 2, .inl i, gx_r 396, .inl (en_wrap (8 * m3))], t0, n, 0)) rfl (fun _ => rfl) rfl ?_
      refine ex_iadd rfl (by first | decide | omega) rfl ?_
      refine gx_ag (v := .inl m2) (cb := fun c => Nat.beq c 0) rfl (fun _ => rfl) g0 rfl rfl k2 (by first | decide | omega) rfl ?_
      refine gx_iaddx rfl rfl ?_
      refine ex_go (S := (38, [(4, .inl (en_wrap ((en_wrap (8 * m3)) + m2))), (3, .inl 1), (2, .inl 3), (0, gx_r 383), (1, .inl i)], [], t0, n, 0)) rfl (fun _ => rfl) rfl ?_
      refine ex_go (S := (39, [(4, .inl (en_wrap ((en_wrap (8 * m3)) + m2))), (3, .inl 1), (2, .inl 3), (0, gx_r 383), (1, .inl i)], [.inl 3], t0, n, 0)) rfl (fun _ => rfl) rfl ?_
      refine ex_go (S := (42, [(4, .inl (en_wrap ((en_wrap (8 * m3)) + m2))), (3, .inl 1), (2, .inl 3), (0, gx_r 383), (1, .inl i)], [], t0, n, 0)) rfl (fun _ => rfl) rfl ?_
      refine ex_go (S := (43, [(4, .inl (en_wrap ((en_wrap (8 * m3)) + m2))), (3, .inl 1), (2, .inl 3), (0, gx_r 383), (1, .inl i)], [.inl 3], t0, n, 0)) rfl (fun _ => rfl) rfl ?_
      refine ex_go (S := (44, [(4, .inl (en_wrap ((en_wrap (8 * m3)) + m2))), (3, .inl 1), (2, .inl 3), (0, gx_r 383), (1, .inl i)], [.inl 1, .inl 3], t0, n, 0)) rfl (fun _ => rfl) rfl ?_
      refine ex_go (S := (63, [(4, .inl (en_wrap ((en_wrap (8 * m3)) + m2))), (3, .inl 1), (2, .inl 3), (0, gx_r 383), (1, .inl i)], [], t0, n, 0)) rfl (fun _ => rfl) rfl ?_
      refine ex_go (S := (64, [(4, .inl (en_wrap ((en_wrap (8 * m3)) + m2))), (3, .inl 1), (2, .inl 3), (0, gx_r 383), (1, .inl i)], [.inl 3], t0, n, 0)) rfl (fun _ => rfl) rfl ?_
      refine ex_go (S := (65, [(4, .inl (en_wrap ((en_wrap (8 * m3)) + m2))), (3, .inl 1), (2, .inl 3), (0, gx_r 383), (1, .inl i)], [.inl 2, .inl 3], t0, n, 0)) rfl (fun _ => rfl) rfl ?_
      refine ex_go (S := (82, [(4, .inl (en_wrap ((en_wrap (8 * m3)) + m2))), (3, .inl 1), (2, .inl 3), (0, gx_r 383), (1, .inl i)], [], t0, n, 0)) rfl (fun _ => rfl) rfl ?_
      refine ex_go (S := (83, [(4, .inl (en_wrap ((en_wrap (8 * m3)) + m2))), (3, .inl 1), (2, .inl 3), (0, gx_r 383), (1, .inl i)], [gx_r 383], t0, n, 0)) rfl (fun _ => rfl) rfl ?_
      refine ex_go (S := (86, [(4, .inl (en_wrap ((en_wrap (8 * m3)) + m2))), (3, .inl 1), (2, .inl 3), (0, gx_r 383), (1, .inl i)], [.inl 945, gx_r 383], t0, n, 0)) rfl (fun _ => rfl) rfl ?_
      refine ex_go (S := (87, [(4, .inl (en_wrap ((en_wrap (8 * m3)) + m2))), (3, .inl 1), (2, .inl 3), (0, gx_r 383), (1, .inl i)], [.inl 1, .inl 945, gx_r 383], t0, n, 0)) rfl (fun _ => rfl) rfl ?_
      obtain ⟨_, r121, v121, rfl, hv121, hm121⟩ := sr_mayM945_1 (d + 3) n g0 hR hb (fun j hj => hσ j hj) hc9
      refine gx_call1 rfl rfl g0 rfl rfl r121 rfl ?_
      show en_ex _ _ _ _ (90, [(4, .inl (en_wrap ((en_wrap (8 * m3)) + m2))), (3, .inl 1), (2, .inl 3), (0, gx_r 383), (1, .inl i)], [.inl v121], t0, n, 0) _
      by_cases hc22 : v121 = 0
      · refine gx_1t (c := .eq) rfl (by first | decide | omega) hc22 rfl ?_
        refine ex_go (S := (98, [(4, .inl (en_wrap ((en_wrap (8 * m3)) + m2))), (3, .inl 1), (2, .inl 3), (0, gx_r 383), (1, .inl i)], [.inl 0], t0, n, 0)) rfl (fun _ => rfl) rfl ?_
        refine ex_go (S := (100, [(5, .inl 0), (4, .inl (en_wrap ((en_wrap (8 * m3)) + m2))), (3, .inl 1), (2, .inl 3), (0, gx_r 383), (1, .inl i)], [], t0, n, 0)) rfl (fun _ => rfl) rfl ?_
        refine ex_go (S := (102, [(5, .inl 0), (4, .inl (en_wrap ((en_wrap (8 * m3)) + m2))), (3, .inl 1), (2, .inl 3), (0, gx_r 383), (1, .inl i)], [.inl 0], t0, n, 0)) rfl (fun _ => rfl) rfl ?_
        refine ex_go (S := (135, [(5, .inl 0), (4, .inl (en_wrap ((en_wrap (8 * m3)) + m2))), (3, .inl 1), (2, .inl 3), (0, gx_r 383), (1, .inl i)], [], t0, n, 0)) rfl (fun _ => rfl) rfl ?_
        refine ex_go (S := (137, [(5, .inl 0), (4, .inl (en_wrap ((en_wrap (8 * m3)) + m2))), (3, .inl 1), (2, .inl 3), (0, gx_r 383), (1, .inl i)], [.inl 0], t0, n, 0)) rfl (fun _ => rfl) rfl ?_
        refine ex_go (S := (158, [(5, .inl 0), (4, .inl (en_wrap ((en_wrap (8 * m3)) + m2))), (3, .inl 1), (2, .inl 3), (0, gx_r 383), (1, .inl i)], [], t0, n, 0)) rfl (fun _ => rfl) rfl ?_
        refine ex_go (S := (160, [(5, .inl 0), (4, .inl (en_wrap ((en_wrap (8 * m3)) + m2))), (3, .inl 1), (2, .inl 3), (0, gx_r 383), (1, .inl i)], [.inl 0], t0, n, 0)) rfl (fun _ => rfl) rfl ?_
        refine ex_go (S := (188, [(5, .inl 0), (4, .inl (en_wrap ((en_wrap (8 * m3)) + m2))), (3, .inl 1), (2, .inl 3), (0, gx_r 383), (1, .inl i)], [], t0, n, 0)) rfl (fun _ => rfl) rfl ?_
        refine ex_go (S := (190, [(5, .inl 0), (4, .inl (en_wrap ((en_wrap (8 * m3)) + m2))), (3, .inl 1), (2, .inl 3), (0, gx_r 383), (1, .inl i)], [.inl 0], t0, n, 0)) rfl (fun _ => rfl) rfl ?_
        refine ex_go (S := (204, [(5, .inl 0), (4, .inl (en_wrap ((en_wrap (8 * m3)) + m2))), (3, .inl 1), (2, .inl 3), (0, gx_r 383), (1, .inl i)], [], t0, n, 0)) rfl (fun _ => rfl) rfl ?_
        refine ex_go (S := (206, [(5, .inl 0), (4, .inl (en_wrap ((en_wrap (8 * m3)) + m2))), (3, .inl 1), (2, .inl 3), (0, gx_r 383), (1, .inl i)], [.inl 0], t0, n, 0)) rfl (fun _ => rfl) rfl ?_
        refine ex_ret (r := (some (.inl 0), t0, n, 0)) rfl (fun _ => rfl) ?_
        have hno : ¬ dlc w σ d9 := fun z => by
          have z := (dlc_3 hd).mp z
          rw [hcr] at z
          have := hm121.mpr z
          omega
        exact ⟨_, rfl, 0, _, rfl, g0, (fun c i h => rfl), (fun j hj => by rw [dls_n hno]; exact hσ j hj), Or.inr ⟨hno, rfl⟩⟩
      · refine gx_1f (c := .eq) rfl (by first | decide | omega) hc22 rfl ?_
        refine ex_go (S := (94, [(4, .inl (en_wrap ((en_wrap (8 * m3)) + m2))), (3, .inl 1), (2, .inl 3), (0, gx_r 383), (1, .inl i)], [.inl 1], t0, n, 0)) rfl (fun _ => rfl) rfl ?_
        refine ex_go (S := (98, [(4, .inl (en_wrap ((en_wrap (8 * m3)) + m2))), (3, .inl 1), (2, .inl 3), (0, gx_r 383), (1, .inl i)], [.inl 1], t0, n, 0)) rfl (fun _ => rfl) rfl ?_
        refine ex_go (S := (100, [(5, .inl 1), (4, .inl (en_wrap ((en_wrap (8 * m3)) + m2))), (3, .inl 1), (2, .inl 3), (0, gx_r 383), (1, .inl i)], [], t0, n, 0)) rfl (fun _ => rfl) rfl ?_
        refine ex_go (S := (102, [(5, .inl 1), (4, .inl (en_wrap ((en_wrap (8 * m3)) + m2))), (3, .inl 1), (2, .inl 3), (0, gx_r 383), (1, .inl i)], [.inl 1], t0, n, 0)) rfl (fun _ => rfl) rfl ?_
        refine ex_go (S := (105, [(5, .inl 1), (4, .inl (en_wrap ((en_wrap (8 * m3)) + m2))), (3, .inl 1), (2, .inl 3), (0, gx_r 383), (1, .inl i)], [], t0, n, 0)) rfl (fun _ => rfl) rfl ?_
        refine ex_go (S := (106, [(5, .inl 1), (4, .inl (en_wrap ((en_wrap (8 * m3)) + m2))), (3, .inl 1), (2, .inl 3), (0, gx_r 383), (1, .inl i)], [.inl 3], t0, n, 0)) rfl (fun _ => rfl) rfl ?_
        refine ex_go (S := (135, [(5, .inl 1), (4, .inl (en_wrap ((en_wrap (8 * m3)) + m2))), (3, .inl 1), (2, .inl 3), (0, gx_r 383), (1, .inl i)], [], t0, n, 0)) rfl (fun _ => rfl) rfl ?_
        refine ex_go (S := (137, [(5, .inl 1), (4, .inl (en_wrap ((en_wrap (8 * m3)) + m2))), (3, .inl 1), (2, .inl 3), (0, gx_r 383), (1, .inl i)], [.inl 1], t0, n, 0)) rfl (fun _ => rfl) rfl ?_
        refine ex_go (S := (140, [(5, .inl 1), (4, .inl (en_wrap ((en_wrap (8 * m3)) + m2))), (3, .inl 1), (2, .inl 3), (0, gx_r 383), (1, .inl i)], [], t0, n, 0)) rfl (fun _ => rfl) rfl ?_
        refine ex_go (S := (141, [(5, .inl 1), (4, .inl (en_wrap ((en_wrap (8 * m3)) + m2))), (3, .inl 1), (2, .inl 3), (0, gx_r 383), (1, .inl i)], [.inl 3], t0, n, 0)) rfl (fun _ => rfl) rfl ?_
        refine ex_go (S := (142, [(5, .inl 1), (4, .inl (en_wrap ((en_wrap (8 * m3)) + m2))), (3, .inl 1), (2, .inl 3), (0, gx_r 383), (1, .inl i)], [.inl 1, .inl 3], t0, n, 0)) rfl (fun _ => rfl) rfl ?_
        refine ex_go (S := (158, [(5, .inl 1), (4, .inl (en_wrap ((en_wrap (8 * m3)) + m2))), (3, .inl 1), (2, .inl 3), (0, gx_r 383), (1, .inl i)], [], t0, n, 0)) rfl (fun _ => rfl) rfl ?_
        refine ex_go (S := (160, [(5, .inl 1), (4, .inl (en_wrap ((en_wrap (8 * m3)) + m2))), (3, .inl 1), (2, .inl 3), (0, gx_r 383), (1, .inl i)], [.inl 1], t0, n, 0)) rfl (fun _ => rfl) rfl ?_
        refine ex_go (S := (163, [(5, .inl 1), (4, .inl (en_wrap ((en_wrap (8 * m3)) + m2))), (3, .inl 1), (2, .inl 3), (0, gx_r 383), (1, .inl i)], [], t0, n, 0)) rfl (fun _ => rfl) rfl ?_
        refine ex_go (S := (164, [(5, .inl 1), (4, .inl (en_wrap ((en_wrap (8 * m3)) + m2))), (3, .inl 1), (2, .inl 3), (0, gx_r 383), (1, .inl i)], [.inl 3], t0, n, 0)) rfl (fun _ => rfl) rfl ?_
        refine ex_go (S := (165, [(5, .inl 1), (4, .inl (en_wrap ((en_wrap (8 * m3)) + m2))), (3, .inl 1), (2, .inl 3), (0, gx_r 383), (1, .inl i)], [.inl 2, .inl 3], t0, n, 0)) rfl (fun _ => rfl) rfl ?_
        refine ex_go (S := (188, [(5, .inl 1), (4, .inl (en_wrap ((en_wrap (8 * m3)) + m2))), (3, .inl 1), (2, .inl 3), (0, gx_r 383), (1, .inl i)], [], t0, n, 0)) rfl (fun _ => rfl) rfl ?_
        refine ex_go (S := (190, [(5, .inl 1), (4, .inl (en_wrap ((en_wrap (8 * m3)) + m2))), (3, .inl 1), (2, .inl 3), (0, gx_r 383), (1, .inl i)], [.inl 1], t0, n, 0)) rfl (fun _ => rfl) rfl ?_
        refine ex_go (S := (193, [(5, .inl 1), (4, .inl (en_wrap ((en_wrap (8 * m3)) + m2))), (3, .inl 1), (2, .inl 3), (0, gx_r 383), (1, .inl i)], [], t0, n, 0)) rfl (fun _ => rfl) rfl ?_
        refine ex_go (S := (194, [(5, .inl 1), (4, .inl (en_wrap ((en_wrap (8 * m3)) + m2))), (3, .inl 1), (2, .inl 3), (0, gx_r 383), (1, .inl i)], [gx_r 383], t0, n, 0)) rfl (fun _ => rfl) rfl ?_
        refine gx_ref (c := 399) rfl g0 rfl rfl rfl rfl ?_
        refine ex_go (S := (200, [(5, .inl 1), (4, .inl (en_wrap ((en_wrap (8 * m3)) + m2))), (3, .inl 1), (2, .inl 3), (0, gx_r 383), (1, .inl i)], [.inl 956, gx_r 399], t0, n, 0)) rfl (fun _ => rfl) rfl ?_
        refine ex_go (S := (201, [(5, .inl 1), (4, .inl (en_wrap ((en_wrap (8 * m3)) + m2))), (3, .inl 1), (2, .inl 3), (0, gx_r 383), (1, .inl i)], [.inl 1, .inl 956, gx_r 399], t0, n, 0)) rfl (fun _ => rfl) rfl ?_
        refine ex_go (S := (202, [(5, .inl 1), (4, .inl (en_wrap ((en_wrap (8 * m3)) + m2))), (3, .inl 1), (2, .inl 3), (0, gx_r 383), (1, .inl i)], [.inl 957, gx_r 399], t0, n, 0)) rfl (fun _ => rfl) rfl ?_
        refine ex_go (S := (203, [(5, .inl 1), (4, .inl (en_wrap ((en_wrap (8 * m3)) + m2))), (3, .inl 1), (2, .inl 3), (0, gx_r 383), (1, .inl i)], [.inl 0, .inl 957, gx_r 399], t0, n, 0)) rfl (fun _ => rfl) rfl ?_
        refine gx_ap rfl (fun _ => rfl) g0 rfl rfl rfl (show 957 < 1035 from by omega) rfl (ai_in_h (by first | decide | omega) (by first | decide | omega) (by first | decide | omega)) rfl (fun t123 g123 k123 e123 => ?_)
        have k24 : ai_hv t123 396 i = some (.inl 3) := (e123 396 i (by first | decide | omega)).trans r0
        have k25 : ai_hv t123 396 (i + 1) = some (.inl 1) := (e123 396 (i + 1) (by first | decide | omega)).trans r1
        have k26 : ai_hv t123 396 (i + 2) = some (.inl m2) := (e123 396 (i + 2) (by first | decide | omega)).trans k2
        have k27 : ai_hv t123 396 (i + 3) = some (.inl m3) := (e123 396 (i + 3) (by first | decide | omega)).trans k3
        refine ex_go (S := (206, [(5, .inl 1), (4, .inl (en_wrap ((en_wrap (8 * m3)) + m2))), (3, .inl 1), (2, .inl 3), (0, gx_r 383), (1, .inl i)], [.inl 1], t123, n, 0)) rfl (fun _ => rfl) rfl ?_
        refine ex_ret (r := (some (.inl 1), t123, n, 0)) rfl (fun _ => rfl) ?_
        exact ⟨_, rfl, 1, _, rfl, g123, (fun c i h => e123 c i (by first | decide | omega)), (fun j hj => by
          rw [dls_3 hd (by rw [hcr]; exact (hm121.mp (by first | decide | omega))), hcr]
          by_cases e9 : j = 12
          · subst e9; exact k123
          · rw [show sgM' σ 1 j = σ j from if_neg e9]; exact (e123 399 _ (by first | decide | omega)).trans (hσ j hj)), Or.inl ⟨(dlc_3 hd).mpr (by rw [hcr]; exact (hm121.mp (by first | decide | omega))), rfl⟩⟩
theorem jr_l (d n : Nat) {tb : en_H} {w : Nat → Nat → Nat} {L : List Nat} {σ : Nat → Nat} {δ : Nat → Nat × Nat × Nat} {nl x : Nat} {Q : en_O → Prop} (hR : RW tb w L) (kn : ai_hv tb 396 0 = some (.inl nl)) (hn : nl ≤ 24) (hr : ∀ k, k < nl → LRd tb w (δ k) (1 + 4 * k)) (hd : ∀ k, k < nl → dok w (δ k)) (hj : jbd σ 0) (hQ : ∀ cl t1, ai_HG ah_G t1 → (∀ c i, ¬ ((c = 399 ∧ 945 ≤ i ∧ i < 962) ∨ (c = 397 ∧ i < 3) ∨ c = 398 ∨ c = 401 ∨ c = 402) → ai_hv t1 c i = ai_hv tb c i) → (∀ j, j < 17 → ai_hv t1 399 (945 + j) = some (.inl (sqn w L δ σ nl j))) → en_ld cl 0 = some (gx_r 383) → en_ld cl 1 = some (.inl x) → en_ld cl 2 = some (.inl (wrn w L δ σ nl)) → en_ex none (en_u (d + 6)) (en_code 53) (fun _ => false) (70, cl, [], t1, n, 0) Q) : ∀ j k cl t0, k + j = nl → ai_HG ah_G t0 → (∀ c i, ¬ ((c = 399 ∧ 945 ≤ i ∧ i < 962) ∨ (c = 397 ∧ i < 3) ∨ c = 398 ∨ c = 401 ∨ c = 402) → ai_hv t0 c i = ai_hv tb c i) → (∀ j, j < 17 → ai_hv t0 399 (945 + j) = some (.inl (sqn w L δ σ k j))) → en_ld cl 0 = some (gx_r 383) → en_ld cl 1 = some (.inl x) → en_ld cl 2 = some (.inl (wrn w L δ σ k)) → en_ld cl 3 = some (.inl k) → en_ex none (en_u (d + 6)) (en_code 53) (fun _ => false) (28, cl, [], t0, n, 0) Q := by
  have hw := WS_of hR
  intro j
  induction j with
  | zero =>
    intro k cl t0 hk g0 e0 hσ l0 l1 l2 l3
    have kn0 := (e0 396 0 (by first | decide | omega)).trans kn
    have hk : k = nl := by omega
    subst hk
    refine gx_ld (i := 3) (d := 0) (v := .inl k) rfl (fun _ => rfl) l3 rfl rfl ?_
    refine gx_ld (i := 0) (d := 2) (v := gx_r 383) rfl (fun _ => rfl) l0 rfl rfl ?_
    refine gx_ref (c := 396) rfl g0 rfl rfl rfl rfl ?_
    refine ex_go (S := (34, cl, [.inl 0, gx_r 396, .inl k], t0, n, 0)) rfl (fun _ => rfl) rfl ?_
    refine gx_ag (v := .inl k) (cb := fun c => Nat.beq c 0) rfl (fun _ => rfl) g0 rfl rfl kn0 (by first | decide | omega) rfl ?_
    refine gx_2t (c := .ge) rfl (by first | decide | omega) (by first | decide | omega) (show k ≤ k from by omega) rfl ?_
    exact hQ _ _ g0 e0 hσ l0 l1 l2
  | succ j ih =>
    intro k cl t0 hk g0 e0 hσ l0 l1 l2 l3
    have kn0 := (e0 396 0 (by first | decide | omega)).trans kn
    refine gx_ld (i := 3) (d := 0) (v := .inl k) rfl (fun _ => rfl) l3 rfl rfl ?_
    refine gx_ld (i := 0) (d := 2) (v := gx_r 383) rfl (fun _ => rfl) l0 rfl rfl ?_
    refine gx_ref (c := 396) rfl g0 rfl rfl rfl rfl ?_
    refine ex_go (S := (34, cl, [.inl 0, gx_r 396, .inl k], t0, n, 0)) rfl (fun _ => rfl) rfl ?_
    refine gx_ag (v := .inl nl) (cb := fun c => Nat.beq c 0) rfl (fun _ => rfl) g0 rfl rfl kn0 (by first | decide | omega) rfl ?_
    refine gx_2f (c := .ge) rfl (by first | decide | omega) (by first | decide | omega) (show ¬ (nl ≤ k) from by omega) rfl ?_
    refine gx_ld (i := 0) (d := 2) (v := gx_r 383) rfl (fun _ => rfl) l0 rfl rfl ?_
    refine ex_go (S := (40, cl, [.inl 1, gx_r 383], t0, n, 0)) rfl (fun _ => rfl) rfl ?_
    refine ex_go (S := (41, cl, [.inl 4, .inl 1, gx_r 383], t0, n, 0)) rfl (fun _ => rfl) rfl ?_
    refine gx_ld (i := 3) (d := 0) (v := .inl k) rfl (fun _ => rfl) l3 rfl rfl ?_
    refine gx_imul rfl (by first | decide | omega) rfl ?_
    refine ex_iadd rfl (by first | decide | omega) rfl ?_
    obtain ⟨_, r121, v121, t121, rfl, g121, e121, y121, hv121⟩ := sr_does d n (i := 1 + 4 * k) (d9 := δ k) (σ := sqn w L δ σ k) (B := 30 * k) g0 (RW_keep hR (fun i hi => e0 389 i (by first | decide | omega)) (fun c i hc _ => e0 c i (by first | decide | omega))) hσ (jbd_sqn hw hd hn hj k (by first | decide | omega)) (by first | decide | omega) (by first | decide | omega) (LRd_keep (hr k (by first | decide | omega)) (fun j => e0 396 j (by first | decide | omega)))
    refine gx_call1 rfl rfl g0 rfl rfl r121 rfl ?_
    show en_ex _ _ _ _ (47, cl, [.inl v121], t121, n, 0) _
    rcases hv121 with ⟨hcn, rfl⟩ | ⟨hcn, rfl⟩
    · show en_ex _ _ _ _ (47, cl, [.inl 1], t121, n, 0) _
      refine gx_sto (i := 4) (d := 0) rfl (fun _ => rfl) rfl rfl (fun l22 hl22 ml22 => ?_)
      have l22_0 : en_ld l22 0 = some (gx_r 383) := ml22 0 _ l0 rfl
      have l22_1 : en_ld l22 1 = some (.inl x) := ml22 1 _ l1 rfl
      have l22_2 : en_ld l22 2 = some (.inl (wrn w L δ σ k)) := ml22 2 _ l2 rfl
      have l22_3 : en_ld l22 3 = some (.inl k) := ml22 3 _ l3 rfl
      refine gx_ld (i := 4) (d := 0) (v := .inl 1) rfl (fun _ => rfl) hl22 rfl rfl ?_
      refine ex_go (S := (62, l22, [], t121, n, 0)) rfl (fun _ => rfl) rfl ?_
      refine gx_ld (i := 2) (d := 0) (v := .inl (wrn w L δ σ k)) rfl (fun _ => rfl) l22_2 rfl rfl ?_
      refine gx_sto (i := 2) (d := 0) rfl (fun _ => rfl) rfl rfl (fun l23 hl23 ml23 => ?_)
      have l23_0 : en_ld l23 0 = some (gx_r 383) := ml23 0 _ l22_0 rfl
      have l23_1 : en_ld l23 1 = some (.inl x) := ml23 1 _ l22_1 rfl
      have l23_3 : en_ld l23 3 = some (.inl k) := ml23 3 _ l22_3 rfl
      have l23_4 : en_ld l23 4 = some (.inl 1) := ml23 4 _ hl22 rfl
      refine gx_incS (i := 3) (a := k) (x := 1) rfl (fun _ => rfl) l23_3 (by first | decide | omega) rfl (fun l24 hl24 ml24 => ?_)
      have l24_0 : en_ld l24 0 = some (gx_r 383) := ml24 0 _ l23_0 rfl
      have l24_1 : en_ld l24 1 = some (.inl x) := ml24 1 _ l23_1 rfl
      have l24_4 : en_ld l24 4 = some (.inl 1) := ml24 4 _ l23_4 rfl
      have l24_2 : en_ld l24 2 = some (.inl (wrn w L δ σ k)) := ml24 2 _ hl23 rfl
      refine ex_go (S := (28, l24, [], t121, n, 0)) rfl (fun _ => rfl) rfl ?_
      exact ih (k + 1) _ _ (by first | decide | omega) g121 (fun c i h => (e121 c i (by first | decide | omega)).trans (e0 c i (by first | decide | omega))) y121 l24_0 l24_1 (by rw [wrn_s (Or.inl hcn)]; exact l24_2) hl24
    · show en_ex _ _ _ _ (47, cl, [.inl 0], t121, n, 0) _
      refine gx_sto (i := 4) (d := 0) rfl (fun _ => rfl) rfl rfl (fun l25 hl25 ml25 => ?_)
      have l25_0 : en_ld l25 0 = some (gx_r 383) := ml25 0 _ l0 rfl
      have l25_1 : en_ld l25 1 = some (.inl x) := ml25 1 _ l1 rfl
      have l25_2 : en_ld l25 2 = some (.inl (wrn w L δ σ k)) := ml25 2 _ l2 rfl
      have l25_3 : en_ld l25 3 = some (.inl k) := ml25 3 _ l3 rfl
      refine gx_ld (i := 4) (d := 0) (v := .inl 0) rfl (fun _ => rfl) hl25 rfl rfl ?_
      refine ex_go (S := (54, l25, [], t121, n, 0)) rfl (fun _ => rfl) rfl ?_
      refine gx_ld (i := 2) (d := 0) (v := .inl (wrn w L δ σ k)) rfl (fun _ => rfl) l25_2 rfl rfl ?_
      rcases wrn_bd (w := w) (L := L) (δ := δ) (σ := σ) k with e9 | e9
      · rw [e9]
        show en_ex _ _ _ _ (55, l25, [.inl 4294967295], t121, n, 0) _
        refine ex_go (S := (58, l25, [], t121, n, 0)) rfl (fun _ => rfl) rfl ?_
        refine gx_ld (i := 3) (d := 0) (v := .inl k) rfl (fun _ => rfl) l25_3 rfl rfl ?_
        refine ex_go (S := (63, l25, [.inl k], t121, n, 0)) rfl (fun _ => rfl) rfl ?_
        refine gx_sto (i := 2) (d := 0) rfl (fun _ => rfl) rfl rfl (fun l26 hl26 ml26 => ?_)
        have l26_0 : en_ld l26 0 = some (gx_r 383) := ml26 0 _ l25_0 rfl
        have l26_1 : en_ld l26 1 = some (.inl x) := ml26 1 _ l25_1 rfl
        have l26_3 : en_ld l26 3 = some (.inl k) := ml26 3 _ l25_3 rfl
        have l26_4 : en_ld l26 4 = some (.inl 0) := ml26 4 _ hl25 rfl
        refine gx_incS (i := 3) (a := k) (x := 1) rfl (fun _ => rfl) l26_3 (by first | decide | omega) rfl (fun l27 hl27 ml27 => ?_)
        have l27_0 : en_ld l27 0 = some (gx_r 383) := ml27 0 _ l26_0 rfl
        have l27_1 : en_ld l27 1 = some (.inl x) := ml27 1 _ l26_1 rfl
        have l27_4 : en_ld l27 4 = some (.inl 0) := ml27 4 _ l26_4 rfl
        have l27_2 : en_ld l27 2 = some (.inl k) := ml27 2 _ hl26 rfl
        refine ex_go (S := (28, l27, [], t121, n, 0)) rfl (fun _ => rfl) rfl ?_
        exact ih (k + 1) _ _ (by first | decide | omega) g121 (fun c i h => (e121 c i (by first | decide | omega)).trans (e0 c i (by first | decide | omega))) y121 l27_0 l27_1 (by rw [wrn_k hcn e9]; exact l27_2) hl27
      · have := e9
        refine gx_1t (c := .ge) rfl (by first | decide | omega) (show 0 ≤ wrn w L δ σ k from by omega) rfl ?_
        refine gx_ld (i := 2) (d := 0) (v := .inl (wrn w L δ σ k)) rfl (fun _ => rfl) l25_2 rfl rfl ?_
        refine gx_sto (i := 2) (d := 0) rfl (fun _ => rfl) rfl rfl (fun l28 hl28 ml28 => ?_)
        have l28_0 : en_ld l28 0 = some (gx_r 383) := ml28 0 _ l25_0 rfl
        have l28_1 : en_ld l28 1 = some (.inl x) := ml28 1 _ l25_1 rfl
        have l28_3 : en_ld l28 3 = some (.inl k) := ml28 3 _ l25_3 rfl
        have l28_4 : en_ld l28 4 = some (.inl 0) := ml28 4 _ hl25 rfl
        refine gx_incS (i := 3) (a := k) (x := 1) rfl (fun _ => rfl) l28_3 (by first | decide | omega) rfl (fun l29 hl29 ml29 => ?_)
        have l29_0 : en_ld l29 0 = some (gx_r 383) := ml29 0 _ l28_0 rfl
        have l29_1 : en_ld l29 1 = some (.inl x) := ml29 1 _ l28_1 rfl
        have l29_4 : en_ld l29 4 = some (.inl 0) := ml29 4 _ l28_4 rfl
        have l29_2 : en_ld l29 2 = some (.inl (wrn w L δ σ k)) := ml29 2 _ hl28 rfl
        refine ex_go (S := (28, l29, [], t121, n, 0)) rfl (fun _ => rfl) rfl ?_
        exact ih (k + 1) _ _ (by first | decide | omega) g121 (fun c i h => (e121 c i (by first | decide | omega)).trans (e0 c i (by first | decide | omega))) y121 l29_0 l29_1 (by rw [wrn_s (Or.inr (by first | decide | omega))]; exact l29_2) hl29
theorem jr_b (d n : Nat) {t0 : en_H} {w : Nat → Nat → Nat} {L : List Nat} {σ : Nat → Nat} {x wv B : Nat} {Q : en_O → Prop} (g0 : ai_HG ah_G t0) (hR : RW t0 w L) (hσ : ∀ j, j < 17 → ai_hv t0 399 (945 + j) = some (.inl (σ j))) (hj : jbd σ B) (hQ : ∀ cl, en_ld cl 0 = some (gx_r 383) → en_ld cl 1 = some (.inl x) → en_ld cl 2 = some (.inl wv) → en_ld cl 3 = some (.inl (bsm σ (w 0 4))) → en_ex none (en_u (d + 6)) (en_code 53) (fun _ => false) (104, cl, [], t0, n, 0) Q) : ∀ j k cl, k + j = w 0 4 → en_ld cl 0 = some (gx_r 383) → en_ld cl 1 = some (.inl x) → en_ld cl 2 = some (.inl wv) → en_ld cl 3 = some (.inl (bsm σ k)) → en_ld cl 4 = some (.inl k) → en_ex none (en_u (d + 6)) (en_code 53) (fun _ => false) (75, cl, [], t0, n, 0) Q := by
  have hK := hR.2.1.2.2.2.2.1
  obtain ⟨⟨-, ⟨h7, h8⟩, -⟩, hsum, -⟩ := hj
  intro j
  induction j with
  | zero =>
    intro k cl hk l0 l1 l2 l3 l4
    have hk : k = w 0 4 := by omega
    rw [hk] at l3 l4
    refine gx_ld (i := 4) (d := 0) (v := .inl (w 0 4)) rfl (fun _ => rfl) l4 rfl rfl ?_
    refine gx_ld (i := 0) (d := 2) (v := gx_r 383) rfl (fun _ => rfl) l0 rfl rfl ?_
    obtain ⟨_, r21, rfl⟩ := sr_crews (d + 5) n g0 (hR.1 4 (by decide))
    refine gx_call1 rfl rfl g0 rfl rfl r21 rfl ?_
    show en_ex _ _ _ _ (81, cl, [.inl (w 0 4), .inl (w 0 4)], t0, n, 0) _
    refine gx_2t (c := .ge) rfl (by first | decide | omega) (by first | decide | omega) (show w 0 4 ≤ w 0 4 from by omega) rfl ?_
    exact hQ _ l0 l1 l2 l3
  | succ j ih =>
    intro k cl hk l0 l1 l2 l3 l4
    have kb : ai_hv t0 399 (952 + k) = some (.inl (σ (7 + k))) := by
      have h9 := hσ (7 + k) (by first | decide | omega)
      rw [show 945 + (7 + k) = 952 + k by omega] at h9
      exact h9
    have hbb : bsm σ k ≤ 40000 ∧ σ (7 + k) ≤ 19998 := by
      rcases (show k = 0 ∨ k = 1 by omega) with rfl | rfl
      · exact ⟨Nat.zero_le _, h7⟩
      · exact ⟨by show 0 + σ 7 ≤ 40000; omega, h8⟩
    refine gx_ld (i := 4) (d := 0) (v := .inl k) rfl (fun _ => rfl) l4 rfl rfl ?_
    refine gx_ld (i := 0) (d := 2) (v := gx_r 383) rfl (fun _ => rfl) l0 rfl rfl ?_
    obtain ⟨_, r21, rfl⟩ := sr_crews (d + 5) n g0 (hR.1 4 (by decide))
    refine gx_call1 rfl rfl g0 rfl rfl r21 rfl ?_
    show en_ex _ _ _ _ (81, cl, [.inl (w 0 4), .inl k], t0, n, 0) _
    refine gx_2f (c := .ge) rfl (by first | decide | omega) (by first | decide | omega) (show ¬ (w 0 4 ≤ k) from by omega) rfl ?_
    refine gx_ld (i := 3) (d := 0) (v := .inl (bsm σ k)) rfl (fun _ => rfl) l3 rfl rfl ?_
    refine gx_ld (i := 0) (d := 2) (v := gx_r 383) rfl (fun _ => rfl) l0 rfl rfl ?_
    refine gx_ref (c := 399) rfl g0 rfl rfl rfl rfl ?_
    refine ex_go (S := (92, cl, [.inl 952, gx_r 399, .inl (bsm σ k)], t0, n, 0)) rfl (fun _ => rfl) rfl ?_
    refine gx_ld (i := 4) (d := 0) (v := .inl k) rfl (fun _ => rfl) l4 rfl rfl ?_
    refine ex_iadd rfl (by first | decide | omega) rfl ?_
    refine gx_ag (v := .inl (σ (7 + k))) (cb := fun c => Nat.beq c 0) rfl (fun _ => rfl) g0 rfl rfl kb (by first | decide | omega) rfl ?_
    refine ex_iadd rfl (by first | decide | omega) rfl ?_
    refine gx_sto (i := 3) (d := 0) rfl (fun _ => rfl) rfl rfl (fun l22 hl22 ml22 => ?_)
    have l22_0 : en_ld l22 0 = some (gx_r 383) := ml22 0 _ l0 rfl
    have l22_1 : en_ld l22 1 = some (.inl x) := ml22 1 _ l1 rfl
    have l22_2 : en_ld l22 2 = some (.inl wv) := ml22 2 _ l2 rfl
    have l22_4 : en_ld l22 4 = some (.inl k) := ml22 4 _ l4 rfl
    refine gx_incS (i := 4) (a := k) (x := 1) rfl (fun _ => rfl) l22_4 (by first | decide | omega) rfl (fun l23 hl23 ml23 => ?_)
    have l23_0 : en_ld l23 0 = some (gx_r 383) := ml23 0 _ l22_0 rfl
    have l23_1 : en_ld l23 1 = some (.inl x) := ml23 1 _ l22_1 rfl
    have l23_2 : en_ld l23 2 = some (.inl wv) := ml23 2 _ l22_2 rfl
    have l23_3 : en_ld l23 3 = some (.inl ((bsm σ k) + (σ (7 + k)))) := ml23 3 _ hl22 rfl
    refine ex_go (S := (75, l23, [], t0, n, 0)) rfl (fun _ => rfl) rfl ?_
    exact ih (k + 1) _ (by first | decide | omega) l23_0 l23_1 l23_2 l23_3 hl23
/-- what judged answers -/
noncomputable def jan (w : Nat → Nat → Nat) (L : List Nat) (δ : Nat → Nat × Nat × Nat) (σ : Nat → Nat) (nl x : Nat) : Nat := if x = 0 then wrn w L δ σ nl else if x = 1 then sqn w L δ σ nl 0 else bsm (sqn w L δ σ nl) (w 0 4)
theorem sr_judged (d n : Nat) {t0 : en_H} {w : Nat → Nat → Nat} {L : List Nat} {δ : Nat → Nat × Nat × Nat} {nl x : Nat} {X Y B : Nat → Nat} (g0 : ai_HG ah_G t0) (hR : RW t0 w L) (kX : ∀ i, i < 6 → ai_hv t0 389 (77 + 3 * i) = some (.inl (X i))) (kY : ∀ i, i < 6 → ai_hv t0 389 (78 + 3 * i) = some (.inl (Y i))) (kB : ∀ c, c < 2 → ai_hv t0 389 (120 + 3 * c) = some (.inl (B c))) (hX : ∀ i, i < 6 → X i ≤ 7) (hY : ∀ i, i < 6 → Y i ≤ 7) (hB : ∀ c, c < 2 → B c ≤ 9999) (kn : ai_hv t0 396 0 = some (.inl nl)) (hn : nl ≤ 24) (hr : ∀ k, k < nl → LRd t0 w (δ k) (1 + 4 * k)) (hd : ∀ k, k < nl → dok w (δ k)) (hj : jbd (bg0 X Y B) 0) (hx : x < 4294967296) : ∃ r, en_u (d + 7) 53 [gx_r 383, .inl x] t0 n = some r ∧ ∃ v t', r = (some (.inl v), t', n, 0) ∧ ((x ≤ 2 → v = jan w L δ (bg0 X Y B) nl x) ∧ (¬ x ≤ 2 → v = 4294967294)) := by
  refine en_u_ex (d := d + 6) rfl ?_
  show en_ex _ _ _ _ (0, [(0, gx_r 383), (1, .inl x)], [], t0, n, 0) _
  refine ex_go (S := (1, [(0, gx_r 383), (1, .inl x)], [gx_r 383], t0, n, 0)) rfl (fun _ => rfl) rfl ?_
  refine ex_go (S := (2, [(0, gx_r 383), (1, .inl x)], [.inl 0, gx_r 383], t0, n, 0)) rfl (fun _ => rfl) rfl ?_
  refine gx_put rfl g0 rfl rfl (ai_in_h (by first | decide | omega) (by first | decide | omega) (by first | decide | omega)) rfl (fun t121 g121 k121 e121 => ?_)
  refine ex_go (S := (6, [(0, gx_r 383), (1, .inl x)], [.inl x], t121, n, 0)) rfl (fun _ => rfl) rfl ?_
  refine ex_go (S := (7, [(0, gx_r 383), (1, .inl x)], [.inl 0, .inl x], t121, n, 0)) rfl (fun _ => rfl) rfl ?_
  refine ex_go (S := (8, [(0, gx_r 383), (1, .inl x)], [.inl 2, .inl 0, .inl x], t121, n, 0)) rfl (fun _ => rfl) rfl ?_
  obtain ⟨_, r22, b23, rfl, b23b, q24⟩ := pz_within (d + 5) n (t0 := t121) (x := x) (lo := 0) (hi := 2) (by first | decide | omega) (by first | decide | omega) (by first | decide | omega)
  refine ex_stat rfl rfl rfl rfl rfl r22 (Nat.le_refl _) rfl ?_
  show en_ex _ _ _ _ (11, [(0, gx_r 383), (1, .inl x)], [.inl b23], t121, n, 0) _
  by_cases hc25 : b23 ≠ 0
  · refine gx_1t (c := .ne) rfl (by first | decide | omega) hc25 rfl ?_
    refine ex_go (S := (18, [(0, gx_r 383), (1, .inl x)], [gx_r 383], t121, n, 0)) rfl (fun _ => rfl) rfl ?_
    refine ex_go (S := (21, [(0, gx_r 383), (1, .inl x)], [.inl 945, gx_r 383], t121, n, 0)) rfl (fun _ => rfl) rfl ?_
    obtain ⟨_, r126, t126, rfl, g126, e126, z0, z1, z7, z9⟩ := pe_starts945 (d + 4) n g121 (fun i hi => (e121 389 _ (by first | decide | omega)).trans (kX i hi)) (fun i hi => (e121 389 _ (by first | decide | omega)).trans (kY i hi)) (fun c hc => (e121 389 _ (by first | decide | omega)).trans (kB c hc)) hX hY hB
    refine gx_call0 rfl rfl g121 rfl rfl r126 rfl ?_
    have k27 : ai_hv t126 383 0 = some (.inl 0) := (e126 383 0 (by first | decide | omega)).trans k121
    have hσ9 : ∀ j, j < 17 → ai_hv t126 399 (945 + j) = some (.inl (bg0 X Y B j)) := fun j hj => by
      rcases (show j = 0 ∨ (1 ≤ j ∧ j ≤ 6) ∨ (7 ≤ j ∧ j ≤ 8) ∨ 9 ≤ j by omega) with rfl | h | h | h
      · exact z0
      · obtain ⟨i, rfl, hi⟩ : ∃ i, j = 1 + i ∧ i < 6 := ⟨j - 1, by omega, by omega⟩
        rw [bg_pl hi, show 945 + (1 + i) = 946 + i by omega]
        exact z1 i hi
      · obtain ⟨c, rfl, hc⟩ : ∃ c, j = 7 + c ∧ c < 2 := ⟨j - 7, by omega, by omega⟩
        rw [bg_bi hc, show 945 + (7 + c) = 952 + c by omega]
        exact z7 c hc
      · obtain ⟨i, rfl, hi⟩ : ∃ i, j = 9 + i ∧ i < 8 := ⟨j - 9, by omega, by omega⟩
        rw [bg_z h, show 945 + (9 + i) = 954 + i by omega]
        exact z9 i hi
    show en_ex _ _ _ _ (24, [(0, gx_r 383), (1, .inl x)], [], t126, n, 0) _
    refine ex_go (S := (25, [(0, gx_r 383), (1, .inl x)], [.inl 4294967295], t126, n, 0)) rfl (fun _ => rfl) rfl ?_
    refine ex_go (S := (26, [(2, .inl 4294967295), (0, gx_r 383), (1, .inl x)], [], t126, n, 0)) rfl (fun _ => rfl) rfl ?_
    refine ex_go (S := (27, [(2, .inl 4294967295), (0, gx_r 383), (1, .inl x)], [.inl 0], t126, n, 0)) rfl (fun _ => rfl) rfl ?_
    refine ex_go (S := (28, [(3, .inl 0), (2, .inl 4294967295), (0, gx_r 383), (1, .inl x)], [], t126, n, 0)) rfl (fun _ => rfl) rfl ?_
    refine jr_l d n (tb := t126) (σ := bg0 X Y B) (δ := δ) (nl := nl) (x := x) (w := w) (L := L) (RW_keep hR (fun i hi => (e126 389 i (by first | decide | omega)).trans (e121 389 i (by first | decide | omega))) (fun c i hc _ => (e126 c i (by first | decide | omega)).trans (e121 c i (by first | decide | omega)))) (((e126 396 0 (by first | decide | omega)).trans (e121 396 0 (by first | decide | omega))).trans kn) hn (fun k hk => LRd_keep (hr k hk) (fun j => (e126 396 j (by first | decide | omega)).trans (e121 396 j (by first | decide | omega)))) hd hj (fun cl t128 g128 e128 y128 l1280 l1281 l1282 => ?_) nl 0 _ _ (by first | decide | omega) g126 (fun _ _ _ => rfl) hσ9 rfl rfl rfl rfl
    refine ex_go (S := (71, cl, [.inl 0], t128, n, 0)) rfl (fun _ => rfl) rfl ?_
    refine gx_sto (i := 3) (d := 0) rfl (fun _ => rfl) rfl rfl (fun l29 hl29 ml29 => ?_)
    have l29_0 : en_ld l29 0 = some (gx_r 383) := ml29 0 _ l1280 rfl
    have l29_1 : en_ld l29 1 = some (.inl x) := ml29 1 _ l1281 rfl
    have l29_2 : en_ld l29 2 = some (.inl (wrn w L δ (bg0 X Y B) nl)) := ml29 2 _ l1282 rfl
    refine ex_go (S := (73, l29, [.inl 0], t128, n, 0)) rfl (fun _ => rfl) rfl ?_
    refine gx_sto (i := 4) (d := 0) rfl (fun _ => rfl) rfl rfl (fun l30 hl30 ml30 => ?_)
    have l30_0 : en_ld l30 0 = some (gx_r 383) := ml30 0 _ l29_0 rfl
    have l30_1 : en_ld l30 1 = some (.inl x) := ml30 1 _ l29_1 rfl
    have l30_2 : en_ld l30 2 = some (.inl (wrn w L δ (bg0 X Y B) nl)) := ml30 2 _ l29_2 rfl
    have l30_3 : en_ld l30 3 = some (.inl 0) := ml30 3 _ hl29 rfl
    refine jr_b d n (σ := sqn w L δ (bg0 X Y B) nl) (x := x) (wv := wrn w L δ (bg0 X Y B) nl) (B := 30 * nl) g128 (RW_keep hR (fun i hi => (e128 389 i (by first | decide | omega)).trans ((e126 389 i (by first | decide | omega)).trans (e121 389 i (by first | decide | omega)))) (fun c i hc _ => (e128 c i (by first | decide | omega)).trans ((e126 c i (by first | decide | omega)).trans (e121 c i (by first | decide | omega))))) y128 (jbd_sqn (WS_of hR) hd hn hj nl (Nat.le_refl _)) (fun cl131 l1310 l1311 l1312 l1313 => ?_) (w 0 4) 0 _ (by first | decide | omega) l30_0 l30_1 l30_2 l30_3 hl30
    have k945 : ai_hv t128 399 945 = some (.inl (sqn w L δ (bg0 X Y B) nl 0)) := y128 0 (by decide)
    have hwb := wrn_bd (w := w) (L := L) (δ := δ) (σ := bg0 X Y B) nl
    refine gx_ld (i := 1) (d := 0) (v := .inl x) rfl (fun _ => rfl) l1311 rfl rfl ?_
    by_cases hc32 : x ≠ 0
    · refine gx_1t (c := .ne) rfl (by first | decide | omega) hc32 rfl ?_
      refine gx_ld (i := 1) (d := 0) (v := .inl x) rfl (fun _ => rfl) l1311 rfl rfl ?_
      refine ex_go (S := (114, cl131, [.inl 1, .inl x], t128, n, 0)) rfl (fun _ => rfl) rfl ?_
      by_cases hc33 : x ≠ 1
      · refine gx_2t (c := .ne) rfl (by first | decide | omega) (by first | decide | omega) hc33 rfl ?_
        refine gx_ld (i := 3) (d := 0) (v := .inl (bsm (sqn w L δ (bg0 X Y B) nl) (w 0 4))) rfl (fun _ => rfl) l1313 rfl rfl ?_
        refine ex_ret (r := (some (.inl (bsm (sqn w L δ (bg0 X Y B) nl) (w 0 4))), t128, n, 0)) rfl (fun _ => rfl) ?_
        exact ⟨_, rfl, _, _, rfl, (fun _ => ((if_neg (by first | decide | omega)).trans (if_neg (by first | decide | omega))).symm), (fun c9 => by omega)⟩
      · refine gx_2f (c := .ne) rfl (by first | decide | omega) (by first | decide | omega) hc33 rfl ?_
        refine gx_ld (i := 0) (d := 2) (v := gx_r 383) rfl (fun _ => rfl) l1310 rfl rfl ?_
        refine gx_ref (c := 399) rfl g128 rfl rfl rfl rfl ?_
        refine ex_go (S := (124, cl131, [.inl 945, gx_r 399], t128, n, 0)) rfl (fun _ => rfl) rfl ?_
        refine gx_ag (v := .inl (sqn w L δ (bg0 X Y B) nl 0)) (cb := fun c => Nat.beq c 0) rfl (fun _ => rfl) g128 rfl rfl k945 (by first | decide | omega) rfl ?_
        refine ex_go (S := (129, cl131, [.inl (sqn w L δ (bg0 X Y B) nl 0)], t128, n, 0)) rfl (fun _ => rfl) rfl ?_
        refine ex_ret (r := (some (.inl (sqn w L δ (bg0 X Y B) nl 0)), t128, n, 0)) rfl (fun _ => rfl) ?_
        exact ⟨_, rfl, _, _, rfl, (fun _ => ((if_neg (by first | decide | omega)).trans (if_pos (by first | decide | omega))).symm), (fun c9 => by omega)⟩
    · refine gx_1f (c := .ne) rfl (by first | decide | omega) hc32 rfl ?_
      refine gx_ld (i := 2) (d := 0) (v := .inl (wrn w L δ (bg0 X Y B) nl)) rfl (fun _ => rfl) l1312 rfl rfl ?_
      refine ex_go (S := (129, cl131, [.inl (wrn w L δ (bg0 X Y B) nl)], t128, n, 0)) rfl (fun _ => rfl) rfl ?_
      refine ex_ret (r := (some (.inl (wrn w L δ (bg0 X Y B) nl)), t128, n, 0)) rfl (fun _ => rfl) ?_
      exact ⟨_, rfl, _, _, rfl, (fun _ => (if_pos (by first | decide | omega)).symm), (fun c9 => by omega)⟩
  · refine gx_1f (c := .ne) rfl (by first | decide | omega) hc25 rfl ?_
    refine ex_go (S := (16, [(0, gx_r 383), (1, .inl x)], [.inl 4294967294], t121, n, 0)) rfl (fun _ => rfl) rfl ?_
    refine ex_ret (r := (some (.inl 4294967294), t121, n, 0)) rfl (fun _ => rfl) ?_
    exact ⟨_, rfl, _, _, rfl, (fun c9 => by omega), (fun _ => rfl)⟩
theorem jb_l191 (d n : Nat) {t0 : en_H} {w : Nat → Nat → Nat} {L : List Nat} {σ : Nat → Nat} {B : Nat} {Q : en_O → Prop} (g0 : ai_HG ah_G t0) (hC : CW t0 191 w L) (hw : WS w) (hS : SC t0 15 (w 0 2) (w 0 4) σ) (hj : jbd σ B) (hQ : Q (.inl (some (.inl (bsm σ (w 0 4))), t0, n, 0))) : ∀ j k cl, k + j = w 0 4 → en_ld cl 0 = some (gx_r 15) → en_ld cl 1 = some (gx_r 191) → en_ld cl 2 = some (.inl (bsm σ k)) → en_ld cl 3 = some (.inl k) → en_ex none (en_u d) (en_code 125) (fun _ => false) (4, cl, [], t0, n, 0) Q := by
  have hK := hw.1.2.2.2.2.1
  have k5 := hC.1.2.2.2.2.2
  obtain ⟨⟨-, ⟨h7, h8⟩, -⟩, hsum, -⟩ := hj
  intro j
  induction j with
  | zero =>
    intro k cl hk l0 l1 l2 l3
    have hk : k = w 0 4 := by omega
    rw [hk] at l2 l3
    refine gx_ld (i := 3) (d := 0) (v := .inl (w 0 4)) rfl (fun _ => rfl) l3 rfl rfl ?_
    refine gx_ld (i := 1) (d := 2) (v := gx_r 191) rfl (fun _ => rfl) l1 rfl rfl ?_
    refine gxo_ref (a := 191) (c := 206) rfl g0 rfl rfl rfl rfl rfl ?_
    refine gxo_get (a := 206) rfl g0 rfl rfl k5 rfl ?_
    refine gx_2t (c := .ge) rfl (by first | decide | omega) (by first | decide | omega) (show w 0 4 ≤ w 0 4 from by omega) rfl ?_
    refine gx_ld (i := 2) (d := 0) (v := .inl (bsm σ (w 0 4))) rfl (fun _ => rfl) l2 rfl rfl ?_
    refine ex_ret (r := (some (.inl (bsm σ (w 0 4))), t0, n, 0)) rfl (fun _ => rfl) ?_
    exact hQ
  | succ j ih =>
    intro k cl hk l0 l1 l2 l3
    have kb := (hS.2.2 k (by first | decide | omega)).1
    have hbb : bsm σ k ≤ 40000 ∧ σ (7 + k) ≤ 19998 := by
      rcases (show k = 0 ∨ k = 1 by omega) with rfl | rfl
      · exact ⟨Nat.zero_le _, h7⟩
      · exact ⟨by show 0 + σ 7 ≤ 40000; omega, h8⟩
    refine gx_ld (i := 3) (d := 0) (v := .inl k) rfl (fun _ => rfl) l3 rfl rfl ?_
    refine gx_ld (i := 1) (d := 2) (v := gx_r 191) rfl (fun _ => rfl) l1 rfl rfl ?_
    refine gxo_ref (a := 191) (c := 206) rfl g0 rfl rfl rfl rfl rfl ?_
    refine gxo_get (a := 206) rfl g0 rfl rfl k5 rfl ?_
    refine gx_2f (c := .ge) rfl (by first | decide | omega) (by first | decide | omega) (show ¬ (w 0 4 ≤ k) from by omega) rfl ?_
    refine gx_ld (i := 2) (d := 0) (v := .inl (bsm σ k)) rfl (fun _ => rfl) l2 rfl rfl ?_
    refine gx_ld (i := 0) (d := 2) (v := gx_r 15) rfl (fun _ => rfl) l0 rfl rfl ?_
    refine gxo_ref (a := 15) (c := 17) rfl g0 rfl rfl rfl rfl rfl ?_
    refine gx_ld (i := 3) (d := 0) (v := .inl k) rfl (fun _ => rfl) l3 rfl rfl ?_
    refine gx_ag (v := .inl (σ (7 + k))) (cb := fun c => Nat.beq c 0) rfl (fun _ => rfl) g0 rfl rfl kb (by first | decide | omega) rfl ?_
    refine ex_iadd rfl (by first | decide | omega) rfl ?_
    refine gx_sto (i := 2) (d := 0) rfl (fun _ => rfl) rfl rfl (fun l21 hl21 ml21 => ?_)
    have l21_0 : en_ld l21 0 = some (gx_r 15) := ml21 0 _ l0 rfl
    have l21_1 : en_ld l21 1 = some (gx_r 191) := ml21 1 _ l1 rfl
    have l21_3 : en_ld l21 3 = some (.inl k) := ml21 3 _ l3 rfl
    refine gx_incS (i := 3) (a := k) (x := 1) rfl (fun _ => rfl) l21_3 (by first | decide | omega) rfl (fun l22 hl22 ml22 => ?_)
    have l22_0 : en_ld l22 0 = some (gx_r 15) := ml22 0 _ l21_0 rfl
    have l22_1 : en_ld l22 1 = some (gx_r 191) := ml22 1 _ l21_1 rfl
    have l22_2 : en_ld l22 2 = some (.inl ((bsm σ k) + (σ (7 + k)))) := ml22 2 _ hl21 rfl
    refine ex_go (S := (4, l22, [], t0, n, 0)) rfl (fun _ => rfl) rfl ?_
    exact ih (k + 1) _ (by first | decide | omega) l22_0 l22_1 l22_2 hl22
theorem sc_bis191 (d n : Nat) {t0 : en_H} {w : Nat → Nat → Nat} {L : List Nat} {σ : Nat → Nat} {B : Nat} (g0 : ai_HG ah_G t0) (hC : CW t0 191 w L) (hw : WS w) (hS : SC t0 15 (w 0 2) (w 0 4) σ) (hj : jbd σ B) : ∃ r, en_u (d + 1) 125 [gx_r 15, gx_r 191] t0 n = some r ∧ r = (some (.inl (bsm σ (w 0 4))), t0, n, 0) := by
  refine en_u_ex rfl ?_
  show en_ex _ _ _ _ (0, [(0, gx_r 15), (1, gx_r 191)], [], t0, n, 0) _
  refine ex_go (S := (1, [(0, gx_r 15), (1, gx_r 191)], [.inl 0], t0, n, 0)) rfl (fun _ => rfl) rfl ?_
  refine ex_go (S := (2, [(2, .inl 0), (0, gx_r 15), (1, gx_r 191)], [], t0, n, 0)) rfl (fun _ => rfl) rfl ?_
  refine ex_go (S := (3, [(2, .inl 0), (0, gx_r 15), (1, gx_r 191)], [.inl 0], t0, n, 0)) rfl (fun _ => rfl) rfl ?_
  refine ex_go (S := (4, [(3, .inl 0), (2, .inl 0), (0, gx_r 15), (1, gx_r 191)], [], t0, n, 0)) rfl (fun _ => rfl) rfl ?_
  exact jb_l191 d n g0 hC hw hS hj ⟨_, rfl, rfl⟩ (w 0 4) 0 _ (by first | decide | omega) rfl rfl rfl rfl
theorem jc_l191_323 (d n : Nat) {tb : en_H} {w : Nat → Nat → Nat} {L : List Nat} {σ : Nat → Nat} {δ : Nat → Nat × Nat × Nat} {nl x : Nat} {Q : en_O → Prop} (hC : CW tb 191 w L) (hw : WS w) (hX : CX tb 191 w) (k10 : ai_hv tb 0 10 = some (gx_r 191)) (k12 : ai_hv tb 0 12 = some (gx_r 323)) (kn : ai_hv tb 323 5 = some (.inl nl)) (hn : nl ≤ 24) (hr : ∀ k, k < nl → ai_hv tb 325 k = some (.inl (δ k).1) ∧ ai_hv tb 326 k = some (.inl (δ k).2.1) ∧ ai_hv tb 327 k = some (.inl (δ k).2.2)) (hd : ∀ k, k < nl → dok w (δ k)) (hj : jbd σ 0) (hQ : ∀ cl t1, ai_HG ah_G t1 → (∀ c i, ¬ (c = 231 ∨ (15 ≤ c ∧ c ≤ 21)) → ai_hv t1 c i = ai_hv tb c i) → SC t1 15 (w 0 2) (w 0 4) (sqn w L δ σ nl) → en_ld cl 0 = some (gx_r 0) → en_ld cl 1 = some (.inl x) → en_ld cl 2 = some (.inl (wrn w L δ σ nl)) → en_ex none (en_u (d + 5)) (en_code 52) (fun _ => false) (94, cl, [], t1, n, 0) Q) : ∀ j k cl t0, k + j = nl → ai_HG ah_G t0 → (∀ c i, ¬ (c = 231 ∨ (15 ≤ c ∧ c ≤ 21)) → ai_hv t0 c i = ai_hv tb c i) → SC t0 15 (w 0 2) (w 0 4) (sqn w L δ σ k) → en_ld cl 0 = some (gx_r 0) → en_ld cl 1 = some (.inl x) → en_ld cl 2 = some (.inl (wrn w L δ σ k)) → en_ld cl 3 = some (.inl k) → en_ex none (en_u (d + 5)) (en_code 52) (fun _ => false) (27, cl, [], t0, n, 0) Q := by
  intro j
  induction j with
  | zero =>
    intro k cl t0 hk g0 e0 hS l0 l1 l2 l3
    have k9 := (e0 0 10 (by first | decide | omega)).trans k10
    have k8 := (e0 0 12 (by first | decide | omega)).trans k12
    have kn0 := (e0 323 5 (by first | decide | omega)).trans kn
    have hk : k = nl := by omega
    subst hk
    refine gx_ld (i := 3) (d := 0) (v := .inl k) rfl (fun _ => rfl) l3 rfl rfl ?_
    refine gx_ld (i := 0) (d := 2) (v := gx_r 0) rfl (fun _ => rfl) l0 rfl rfl ?_
    refine gxo_get (a := 0) rfl g0 rfl rfl k8 rfl ?_
    refine gxo_get (a := 323) rfl g0 rfl rfl kn0 rfl ?_
    refine gx_2t (c := .ge) rfl (by first | decide | omega) (by first | decide | omega) (show k ≤ k from by omega) rfl ?_
    exact hQ _ _ g0 e0 hS l0 l1 l2
  | succ j ih =>
    intro k cl t0 hk g0 e0 hS l0 l1 l2 l3
    have k9 := (e0 0 10 (by first | decide | omega)).trans k10
    have k8 := (e0 0 12 (by first | decide | omega)).trans k12
    have kn0 := (e0 323 5 (by first | decide | omega)).trans kn
    have kr1 := (e0 325 k (by first | decide | omega)).trans (hr k (by first | decide | omega)).1
    have kr2 := (e0 326 k (by first | decide | omega)).trans (hr k (by first | decide | omega)).2.1
    have kr3 := (e0 327 k (by first | decide | omega)).trans (hr k (by first | decide | omega)).2.2
    have hjk := jbd_sqn (L := L) hw hd hn hj k (by first | decide | omega)
    have hs0 := hjk.2.2
    have hK := hw.1.2.2.2.2.1
    refine gx_ld (i := 3) (d := 0) (v := .inl k) rfl (fun _ => rfl) l3 rfl rfl ?_
    refine gx_ld (i := 0) (d := 2) (v := gx_r 0) rfl (fun _ => rfl) l0 rfl rfl ?_
    refine gxo_get (a := 0) rfl g0 rfl rfl k8 rfl ?_
    refine gxo_get (a := 323) rfl g0 rfl rfl kn0 rfl ?_
    refine gx_2f (c := .ge) rfl (by first | decide | omega) (by first | decide | omega) (show ¬ (nl ≤ k) from by omega) rfl ?_
    refine gx_ld (i := 0) (d := 2) (v := gx_r 0) rfl (fun _ => rfl) l0 rfl rfl ?_
    refine gx_ld (i := 0) (d := 2) (v := gx_r 0) rfl (fun _ => rfl) l0 rfl rfl ?_
    refine gxo_ref (a := 0) (c := 15) rfl g0 rfl rfl rfl rfl rfl ?_
    refine gx_ld (i := 0) (d := 2) (v := gx_r 0) rfl (fun _ => rfl) l0 rfl rfl ?_
    refine gxo_get (a := 0) rfl g0 rfl rfl k8 rfl ?_
    refine gxo_ref (a := 323) (c := 325) rfl g0 rfl rfl rfl rfl rfl ?_
    refine gx_ld (i := 3) (d := 0) (v := .inl k) rfl (fun _ => rfl) l3 rfl rfl ?_
    refine gx_ag (v := .inl ((δ k).1)) (cb := fun c => Nat.beq c 0) rfl (fun _ => rfl) g0 rfl rfl kr1 (by first | decide | omega) rfl ?_
    refine gx_ld (i := 0) (d := 2) (v := gx_r 0) rfl (fun _ => rfl) l0 rfl rfl ?_
    refine gxo_get (a := 0) rfl g0 rfl rfl k8 rfl ?_
    refine gxo_ref (a := 323) (c := 326) rfl g0 rfl rfl rfl rfl rfl ?_
    refine gx_ld (i := 3) (d := 0) (v := .inl k) rfl (fun _ => rfl) l3 rfl rfl ?_
    refine gx_ag (v := .inl ((δ k).2.1)) (cb := fun c => Nat.beq c 0) rfl (fun _ => rfl) g0 rfl rfl kr2 (by first | decide | omega) rfl ?_
    refine gx_ld (i := 0) (d := 2) (v := gx_r 0) rfl (fun _ => rfl) l0 rfl rfl ?_
    refine gxo_get (a := 0) rfl g0 rfl rfl k8 rfl ?_
    refine gxo_ref (a := 323) (c := 327) rfl g0 rfl rfl rfl rfl rfl ?_
    refine gx_ld (i := 3) (d := 0) (v := .inl k) rfl (fun _ => rfl) l3 rfl rfl ?_
    refine gx_ag (v := .inl ((δ k).2.2)) (cb := fun c => Nat.beq c 0) rfl (fun _ => rfl) g0 rfl rfl kr3 (by first | decide | omega) rfl ?_
    rcases hd k (by first | decide | omega) with ⟨hk0, hv0⟩ | ⟨hk0, hc0, hv0⟩ | ⟨hk0, hc0, hv0⟩ | ⟨hk0, hc0⟩
    · rw [hk0]
      show en_ex _ _ _ _ (70, cl, [.inl ((δ k).2.2), .inl ((δ k).2.1), .inl 0, gx_r 15, gx_r 0], t0, n, 0) _
      obtain ⟨_, r121, t121, rfl, g121, e121, y121⟩ := sc_act0_15_191 d n (x := (δ k).2.2) (cr := (δ k).2.1) (σ := sqn w L δ σ k) g0 (CW_keep hC (fun c i h => e0 c i (by first | decide | omega))) hw hjk.1 k9 hv0 hS
      have hval : itp w L (δ k).2.2 (sqn w L δ σ k) 0 ≤ 1000 := by
        rw [itp_0 hs0 (by first | decide | omega) _ hv0]
        omega
      have hcn : dlc w (sqn w L δ σ k) (δ k) := Or.inl hk0
      have y9 : SC t121 15 (w 0 2) (w 0 4) (sqn w L δ σ (k + 1)) := by
        show SC t121 15 (w 0 2) (w 0 4) (dls w L (sqn w L δ σ k) (δ k))
        rw [dls_0 hk0]
        exact y121
      refine gx_callo (a := 0) rfl rfl g0 rfl rfl rfl r121 rfl ?_
      show en_ex _ _ _ _ (73, cl, [.inl (itp w L (δ k).2.2 (sqn w L δ σ k) 0)], t121, n, 0) _
      refine gx_sto (i := 4) (d := 0) rfl (fun _ => rfl) rfl rfl (fun l22 hl22 ml22 => ?_)
      have l22_0 : en_ld l22 0 = some (gx_r 0) := ml22 0 _ l0 rfl
      have l22_1 : en_ld l22 1 = some (.inl x) := ml22 1 _ l1 rfl
      have l22_2 : en_ld l22 2 = some (.inl (wrn w L δ σ k)) := ml22 2 _ l2 rfl
      have l22_3 : en_ld l22 3 = some (.inl k) := ml22 3 _ l3 rfl
      refine gx_ld (i := 4) (d := 0) (v := .inl (itp w L (δ k).2.2 (sqn w L δ σ k) 0)) rfl (fun _ => rfl) hl22 rfl rfl ?_
      refine ex_go (S := (78, l22, [.inl 4294967295, .inl (itp w L (δ k).2.2 (sqn w L δ σ k) 0)], t121, n, 0)) rfl (fun _ => rfl) rfl ?_
      refine gx_2mt (c := .ne) rfl (by first | decide | omega) rfl rfl ?_
      refine gx_incS (i := 3) (a := k) (x := 1) rfl (fun _ => rfl) l22_3 (by first | decide | omega) rfl (fun l23 hl23 ml23 => ?_)
      have l23_0 : en_ld l23 0 = some (gx_r 0) := ml23 0 _ l22_0 rfl
      have l23_1 : en_ld l23 1 = some (.inl x) := ml23 1 _ l22_1 rfl
      have l23_2 : en_ld l23 2 = some (.inl (wrn w L δ σ k)) := ml23 2 _ l22_2 rfl
      have l23_4 : en_ld l23 4 = some (.inl (itp w L (δ k).2.2 (sqn w L δ σ k) 0)) := ml23 4 _ hl22 rfl
      refine ex_go (S := (27, l23, [], t121, n, 0)) rfl (fun _ => rfl) rfl ?_
      exact ih (k + 1) _ _ (by first | decide | omega) g121 (fun c i h => (e121 c i (by first | decide | omega)).trans (e0 c i (by first | decide | omega))) y9 l23_0 l23_1 (by rw [wrn_s (Or.inl hcn)]; exact l23_2) hl23
    · rw [hk0]
      by_cases hm : mayH w (sqn w L δ σ k) (δ k).2.1 (δ k).2.2
      · show en_ex _ _ _ _ (70, cl, [.inl ((δ k).2.2), .inl ((δ k).2.1), .inl 1, gx_r 15, gx_r 0], t0, n, 0) _
        obtain ⟨_, r124, y124, t124, rfl, g124, e124, a124, b124⟩ := sc_act1_15_191 d n (σ := sqn w L δ σ k) (c := (δ k).2.1) (to := (δ k).2.2) g0 (CW_keep hC (fun c i h => e0 c i (by first | decide | omega))) hw hjk.1 hS k9 (CX_keep hX (fun c i h => e0 c i (by first | decide | omega))) (by first | decide | omega) hv0 hc0
        obtain ⟨rfl, y1⟩ := a124 hm
        have hcn : dlc w (sqn w L δ σ k) (δ k) := (dlc_1 hk0).mpr hm
        have y9 : SC t124 15 (w 0 2) (w 0 4) (sqn w L δ σ (k + 1)) := by
          show SC t124 15 (w 0 2) (w 0 4) (dls w L (sqn w L δ σ k) (δ k))
          rw [dls_1 hk0 hm]
          exact y1
        refine gx_callo (a := 0) rfl rfl g0 rfl rfl rfl r124 rfl ?_
        show en_ex _ _ _ _ (73, cl, [.inl 0], t124, n, 0) _
        refine gx_sto (i := 4) (d := 0) rfl (fun _ => rfl) rfl rfl (fun l25 hl25 ml25 => ?_)
        have l25_0 : en_ld l25 0 = some (gx_r 0) := ml25 0 _ l0 rfl
        have l25_1 : en_ld l25 1 = some (.inl x) := ml25 1 _ l1 rfl
        have l25_2 : en_ld l25 2 = some (.inl (wrn w L δ σ k)) := ml25 2 _ l2 rfl
        have l25_3 : en_ld l25 3 = some (.inl k) := ml25 3 _ l3 rfl
        refine gx_ld (i := 4) (d := 0) (v := .inl 0) rfl (fun _ => rfl) hl25 rfl rfl ?_
        refine ex_go (S := (78, l25, [.inl 4294967295, .inl 0], t124, n, 0)) rfl (fun _ => rfl) rfl ?_
        refine ex_go (S := (88, l25, [], t124, n, 0)) rfl (fun _ => rfl) rfl ?_
        refine gx_incS (i := 3) (a := k) (x := 1) rfl (fun _ => rfl) l25_3 (by first | decide | omega) rfl (fun l26 hl26 ml26 => ?_)
        have l26_0 : en_ld l26 0 = some (gx_r 0) := ml26 0 _ l25_0 rfl
        have l26_1 : en_ld l26 1 = some (.inl x) := ml26 1 _ l25_1 rfl
        have l26_2 : en_ld l26 2 = some (.inl (wrn w L δ σ k)) := ml26 2 _ l25_2 rfl
        have l26_4 : en_ld l26 4 = some (.inl 0) := ml26 4 _ hl25 rfl
        refine ex_go (S := (27, l26, [], t124, n, 0)) rfl (fun _ => rfl) rfl ?_
        exact ih (k + 1) _ _ (by first | decide | omega) g124 (fun c i h => (e124 c i (by first | decide | omega)).trans (e0 c i (by first | decide | omega))) y9 l26_0 l26_1 (by rw [wrn_s (Or.inl hcn)]; exact l26_2) hl26
      · show en_ex _ _ _ _ (70, cl, [.inl ((δ k).2.2), .inl ((δ k).2.1), .inl 1, gx_r 15, gx_r 0], t0, n, 0) _
        obtain ⟨_, r127, y127, t127, rfl, g127, e127, a127, b127⟩ := sc_act1_15_191 d n (σ := sqn w L δ σ k) (c := (δ k).2.1) (to := (δ k).2.2) g0 (CW_keep hC (fun c i h => e0 c i (by first | decide | omega))) hw hjk.1 hS k9 (CX_keep hX (fun c i h => e0 c i (by first | decide | omega))) (by first | decide | omega) hv0 hc0
        obtain ⟨rfl, e9⟩ := b127 hm
        have hcn : ¬ dlc w (sqn w L δ σ k) (δ k) := fun q9 => hm ((dlc_1 hk0).mp q9)
        have y9 : SC t127 15 (w 0 2) (w 0 4) (sqn w L δ σ (k + 1)) := by
          show SC t127 15 (w 0 2) (w 0 4) (dls w L (sqn w L δ σ k) (δ k))
          rw [dls_n hcn, e9]
          exact hS
        refine gx_callo (a := 0) rfl rfl g0 rfl rfl rfl r127 rfl ?_
        show en_ex _ _ _ _ (73, cl, [.inl 4294967295], t127, n, 0) _
        refine gx_sto (i := 4) (d := 0) rfl (fun _ => rfl) rfl rfl (fun l28 hl28 ml28 => ?_)
        have l28_0 : en_ld l28 0 = some (gx_r 0) := ml28 0 _ l0 rfl
        have l28_1 : en_ld l28 1 = some (.inl x) := ml28 1 _ l1 rfl
        have l28_2 : en_ld l28 2 = some (.inl (wrn w L δ σ k)) := ml28 2 _ l2 rfl
        have l28_3 : en_ld l28 3 = some (.inl k) := ml28 3 _ l3 rfl
        refine gx_ld (i := 4) (d := 0) (v := .inl 4294967295) rfl (fun _ => rfl) hl28 rfl rfl ?_
        refine ex_go (S := (78, l28, [.inl 4294967295, .inl 4294967295], t127, n, 0)) rfl (fun _ => rfl) rfl ?_
        refine ex_go (S := (81, l28, [], t127, n, 0)) rfl (fun _ => rfl) rfl ?_
        refine gx_ld (i := 2) (d := 0) (v := .inl (wrn w L δ σ k)) rfl (fun _ => rfl) l28_2 rfl rfl ?_
        rcases wrn_bd (w := w) (L := L) (δ := δ) (σ := σ) k with e8 | e8
        · rw [e8]
          show en_ex _ _ _ _ (82, l28, [.inl 4294967295], t127, n, 0) _
          refine ex_go (S := (83, l28, [.inl 4294967295, .inl 4294967295], t127, n, 0)) rfl (fun _ => rfl) rfl ?_
          refine ex_go (S := (86, l28, [], t127, n, 0)) rfl (fun _ => rfl) rfl ?_
          refine gx_ld (i := 3) (d := 0) (v := .inl k) rfl (fun _ => rfl) l28_3 rfl rfl ?_
          refine gx_sto (i := 2) (d := 0) rfl (fun _ => rfl) rfl rfl (fun l29 hl29 ml29 => ?_)
          have l29_0 : en_ld l29 0 = some (gx_r 0) := ml29 0 _ l28_0 rfl
          have l29_1 : en_ld l29 1 = some (.inl x) := ml29 1 _ l28_1 rfl
          have l29_3 : en_ld l29 3 = some (.inl k) := ml29 3 _ l28_3 rfl
          have l29_4 : en_ld l29 4 = some (.inl 4294967295) := ml29 4 _ hl28 rfl
          refine gx_incS (i := 3) (a := k) (x := 1) rfl (fun _ => rfl) l29_3 (by first | decide | omega) rfl (fun l30 hl30 ml30 => ?_)
          have l30_0 : en_ld l30 0 = some (gx_r 0) := ml30 0 _ l29_0 rfl
          have l30_1 : en_ld l30 1 = some (.inl x) := ml30 1 _ l29_1 rfl
          have l30_4 : en_ld l30 4 = some (.inl 4294967295) := ml30 4 _ l29_4 rfl
          have l30_2 : en_ld l30 2 = some (.inl k) := ml30 2 _ hl29 rfl
          refine ex_go (S := (27, l30, [], t127, n, 0)) rfl (fun _ => rfl) rfl ?_
          exact ih (k + 1) _ _ (by first | decide | omega) g127 (fun c i h => (e127 c i (by first | decide | omega)).trans (e0 c i (by first | decide | omega))) y9 l30_0 l30_1 (by rw [wrn_k hcn e8]; exact l30_2) hl30
        · have := e8
          refine ex_go (S := (83, l28, [.inl 4294967295, .inl (wrn w L δ σ k)], t127, n, 0)) rfl (fun _ => rfl) rfl ?_
          refine gx_2mt (c := .ne) rfl (by first | decide | omega) rfl rfl ?_
          refine gx_incS (i := 3) (a := k) (x := 1) rfl (fun _ => rfl) l28_3 (by first | decide | omega) rfl (fun l31 hl31 ml31 => ?_)
          have l31_0 : en_ld l31 0 = some (gx_r 0) := ml31 0 _ l28_0 rfl
          have l31_1 : en_ld l31 1 = some (.inl x) := ml31 1 _ l28_1 rfl
          have l31_2 : en_ld l31 2 = some (.inl (wrn w L δ σ k)) := ml31 2 _ l28_2 rfl
          have l31_4 : en_ld l31 4 = some (.inl 4294967295) := ml31 4 _ hl28 rfl
          refine ex_go (S := (27, l31, [], t127, n, 0)) rfl (fun _ => rfl) rfl ?_
          exact ih (k + 1) _ _ (by first | decide | omega) g127 (fun c i h => (e127 c i (by first | decide | omega)).trans (e0 c i (by first | decide | omega))) y9 l31_0 l31_1 (by rw [wrn_s (Or.inr (by first | decide | omega))]; exact l31_2) hl31
    · rw [hk0]
      by_cases hm : mayL w (sqn w L δ σ k) (δ k).2.1
      · show en_ex _ _ _ _ (70, cl, [.inl ((δ k).2.2), .inl ((δ k).2.1), .inl 2, gx_r 15, gx_r 0], t0, n, 0) _
        obtain ⟨_, r132, y132, t132, rfl, g132, e132, a132, b132⟩ := sc_act2_15_191 d n (σ := sqn w L δ σ k) (c := (δ k).2.1) (v := (δ k).2.2) g0 (CW_keep hC (fun c i h => e0 c i (by first | decide | omega))) hw hjk.1 hS k9 hjk.2.1 hv0 hc0
        obtain ⟨rfl, y1⟩ := a132 hm
        have hcn : dlc w (sqn w L δ σ k) (δ k) := (dlc_2 hk0).mpr hm
        have y9 : SC t132 15 (w 0 2) (w 0 4) (sqn w L δ σ (k + 1)) := by
          show SC t132 15 (w 0 2) (w 0 4) (dls w L (sqn w L δ σ k) (δ k))
          rw [dls_2 hk0 hm]
          exact y1
        have hlv : lnv (sqn w L δ σ k) (δ k).2.1 (δ k).2.2 ≤ 999 := Nat.le_trans (Nat.min_le_left _ _) hv0
        refine gx_callo (a := 0) rfl rfl g0 rfl rfl rfl r132 rfl ?_
        show en_ex _ _ _ _ (73, cl, [.inl (lnv (sqn w L δ σ k) (δ k).2.1 (δ k).2.2)], t132, n, 0) _
        refine gx_sto (i := 4) (d := 0) rfl (fun _ => rfl) rfl rfl (fun l33 hl33 ml33 => ?_)
        have l33_0 : en_ld l33 0 = some (gx_r 0) := ml33 0 _ l0 rfl
        have l33_1 : en_ld l33 1 = some (.inl x) := ml33 1 _ l1 rfl
        have l33_2 : en_ld l33 2 = some (.inl (wrn w L δ σ k)) := ml33 2 _ l2 rfl
        have l33_3 : en_ld l33 3 = some (.inl k) := ml33 3 _ l3 rfl
        refine gx_ld (i := 4) (d := 0) (v := .inl (lnv (sqn w L δ σ k) (δ k).2.1 (δ k).2.2)) rfl (fun _ => rfl) hl33 rfl rfl ?_
        refine ex_go (S := (78, l33, [.inl 4294967295, .inl (lnv (sqn w L δ σ k) (δ k).2.1 (δ k).2.2)], t132, n, 0)) rfl (fun _ => rfl) rfl ?_
        refine gx_2mt (c := .ne) rfl (by first | decide | omega) rfl rfl ?_
        refine gx_incS (i := 3) (a := k) (x := 1) rfl (fun _ => rfl) l33_3 (by first | decide | omega) rfl (fun l34 hl34 ml34 => ?_)
        have l34_0 : en_ld l34 0 = some (gx_r 0) := ml34 0 _ l33_0 rfl
        have l34_1 : en_ld l34 1 = some (.inl x) := ml34 1 _ l33_1 rfl
        have l34_2 : en_ld l34 2 = some (.inl (wrn w L δ σ k)) := ml34 2 _ l33_2 rfl
        have l34_4 : en_ld l34 4 = some (.inl (lnv (sqn w L δ σ k) (δ k).2.1 (δ k).2.2)) := ml34 4 _ hl33 rfl
        refine ex_go (S := (27, l34, [], t132, n, 0)) rfl (fun _ => rfl) rfl ?_
        exact ih (k + 1) _ _ (by first | decide | omega) g132 (fun c i h => (e132 c i (by first | decide | omega)).trans (e0 c i (by first | decide | omega))) y9 l34_0 l34_1 (by rw [wrn_s (Or.inl hcn)]; exact l34_2) hl34
      · show en_ex _ _ _ _ (70, cl, [.inl ((δ k).2.2), .inl ((δ k).2.1), .inl 2, gx_r 15, gx_r 0], t0, n, 0) _
        obtain ⟨_, r135, y135, t135, rfl, g135, e135, a135, b135⟩ := sc_act2_15_191 d n (σ := sqn w L δ σ k) (c := (δ k).2.1) (v := (δ k).2.2) g0 (CW_keep hC (fun c i h => e0 c i (by first | decide | omega))) hw hjk.1 hS k9 hjk.2.1 hv0 hc0
        obtain ⟨rfl, e9⟩ := b135 hm
        have hcn : ¬ dlc w (sqn w L δ σ k) (δ k) := fun q9 => hm ((dlc_2 hk0).mp q9)
        have y9 : SC t135 15 (w 0 2) (w 0 4) (sqn w L δ σ (k + 1)) := by
          show SC t135 15 (w 0 2) (w 0 4) (dls w L (sqn w L δ σ k) (δ k))
          rw [dls_n hcn, e9]
          exact hS
        refine gx_callo (a := 0) rfl rfl g0 rfl rfl rfl r135 rfl ?_
        show en_ex _ _ _ _ (73, cl, [.inl 4294967295], t135, n, 0) _
        refine gx_sto (i := 4) (d := 0) rfl (fun _ => rfl) rfl rfl (fun l36 hl36 ml36 => ?_)
        have l36_0 : en_ld l36 0 = some (gx_r 0) := ml36 0 _ l0 rfl
        have l36_1 : en_ld l36 1 = some (.inl x) := ml36 1 _ l1 rfl
        have l36_2 : en_ld l36 2 = some (.inl (wrn w L δ σ k)) := ml36 2 _ l2 rfl
        have l36_3 : en_ld l36 3 = some (.inl k) := ml36 3 _ l3 rfl
        refine gx_ld (i := 4) (d := 0) (v := .inl 4294967295) rfl (fun _ => rfl) hl36 rfl rfl ?_
        refine ex_go (S := (78, l36, [.inl 4294967295, .inl 4294967295], t135, n, 0)) rfl (fun _ => rfl) rfl ?_
        refine ex_go (S := (81, l36, [], t135, n, 0)) rfl (fun _ => rfl) rfl ?_
        refine gx_ld (i := 2) (d := 0) (v := .inl (wrn w L δ σ k)) rfl (fun _ => rfl) l36_2 rfl rfl ?_
        rcases wrn_bd (w := w) (L := L) (δ := δ) (σ := σ) k with e8 | e8
        · rw [e8]
          show en_ex _ _ _ _ (82, l36, [.inl 4294967295], t135, n, 0) _
          refine ex_go (S := (83, l36, [.inl 4294967295, .inl 4294967295], t135, n, 0)) rfl (fun _ => rfl) rfl ?_
          refine ex_go (S := (86, l36, [], t135, n, 0)) rfl (fun _ => rfl) rfl ?_
          refine gx_ld (i := 3) (d := 0) (v := .inl k) rfl (fun _ => rfl) l36_3 rfl rfl ?_
          refine gx_sto (i := 2) (d := 0) rfl (fun _ => rfl) rfl rfl (fun l37 hl37 ml37 => ?_)
          have l37_0 : en_ld l37 0 = some (gx_r 0) := ml37 0 _ l36_0 rfl
          have l37_1 : en_ld l37 1 = some (.inl x) := ml37 1 _ l36_1 rfl
          have l37_3 : en_ld l37 3 = some (.inl k) := ml37 3 _ l36_3 rfl
          have l37_4 : en_ld l37 4 = some (.inl 4294967295) := ml37 4 _ hl36 rfl
          refine gx_incS (i := 3) (a := k) (x := 1) rfl (fun _ => rfl) l37_3 (by first | decide | omega) rfl (fun l38 hl38 ml38 => ?_)
          have l38_0 : en_ld l38 0 = some (gx_r 0) := ml38 0 _ l37_0 rfl
          have l38_1 : en_ld l38 1 = some (.inl x) := ml38 1 _ l37_1 rfl
          have l38_4 : en_ld l38 4 = some (.inl 4294967295) := ml38 4 _ l37_4 rfl
          have l38_2 : en_ld l38 2 = some (.inl k) := ml38 2 _ hl37 rfl
          refine ex_go (S := (27, l38, [], t135, n, 0)) rfl (fun _ => rfl) rfl ?_
          exact ih (k + 1) _ _ (by first | decide | omega) g135 (fun c i h => (e135 c i (by first | decide | omega)).trans (e0 c i (by first | decide | omega))) y9 l38_0 l38_1 (by rw [wrn_k hcn e8]; exact l38_2) hl38
        · have := e8
          refine ex_go (S := (83, l36, [.inl 4294967295, .inl (wrn w L δ σ k)], t135, n, 0)) rfl (fun _ => rfl) rfl ?_
          refine gx_2mt (c := .ne) rfl (by first | decide | omega) rfl rfl ?_
          refine gx_incS (i := 3) (a := k) (x := 1) rfl (fun _ => rfl) l36_3 (by first | decide | omega) rfl (fun l39 hl39 ml39 => ?_)
          have l39_0 : en_ld l39 0 = some (gx_r 0) := ml39 0 _ l36_0 rfl
          have l39_1 : en_ld l39 1 = some (.inl x) := ml39 1 _ l36_1 rfl
          have l39_2 : en_ld l39 2 = some (.inl (wrn w L δ σ k)) := ml39 2 _ l36_2 rfl
          have l39_4 : en_ld l39 4 = some (.inl 4294967295) := ml39 4 _ hl36 rfl
          refine ex_go (S := (27, l39, [], t135, n, 0)) rfl (fun _ => rfl) rfl ?_
          exact ih (k + 1) _ _ (by first | decide | omega) g135 (fun c i h => (e135 c i (by first | decide | omega)).trans (e0 c i (by first | decide | omega))) y9 l39_0 l39_1 (by rw [wrn_s (Or.inr (by first | decide | omega))]; exact l39_2) hl39
    · rw [hk0]
      by_cases hm : mayM w (sqn w L δ σ k) (δ k).2.1
      · show en_ex _ _ _ _ (70, cl, [.inl ((δ k).2.2), .inl ((δ k).2.1), .inl 3, gx_r 15, gx_r 0], t0, n, 0) _
        obtain ⟨_, r140, y140, t140, rfl, g140, e140, a140, b140⟩ := sc_act3_15_191 d n (σ := sqn w L δ σ k) (c := (δ k).2.1) (to := (δ k).2.2) g0 (CW_keep hC (fun c i h => e0 c i (by first | decide | omega))) hw hjk.1 hS k9 hc0
        obtain ⟨rfl, y1⟩ := a140 hm
        have hcn : dlc w (sqn w L δ σ k) (δ k) := (dlc_3 hk0).mpr hm
        have y9 : SC t140 15 (w 0 2) (w 0 4) (sqn w L δ σ (k + 1)) := by
          show SC t140 15 (w 0 2) (w 0 4) (dls w L (sqn w L δ σ k) (δ k))
          rw [dls_3 hk0 hm]
          exact y1
        refine gx_callo (a := 0) rfl rfl g0 rfl rfl rfl r140 rfl ?_
        show en_ex _ _ _ _ (73, cl, [.inl 0], t140, n, 0) _
        refine gx_sto (i := 4) (d := 0) rfl (fun _ => rfl) rfl rfl (fun l41 hl41 ml41 => ?_)
        have l41_0 : en_ld l41 0 = some (gx_r 0) := ml41 0 _ l0 rfl
        have l41_1 : en_ld l41 1 = some (.inl x) := ml41 1 _ l1 rfl
        have l41_2 : en_ld l41 2 = some (.inl (wrn w L δ σ k)) := ml41 2 _ l2 rfl
        have l41_3 : en_ld l41 3 = some (.inl k) := ml41 3 _ l3 rfl
        refine gx_ld (i := 4) (d := 0) (v := .inl 0) rfl (fun _ => rfl) hl41 rfl rfl ?_
        refine ex_go (S := (78, l41, [.inl 4294967295, .inl 0], t140, n, 0)) rfl (fun _ => rfl) rfl ?_
        refine ex_go (S := (88, l41, [], t140, n, 0)) rfl (fun _ => rfl) rfl ?_
        refine gx_incS (i := 3) (a := k) (x := 1) rfl (fun _ => rfl) l41_3 (by first | decide | omega) rfl (fun l42 hl42 ml42 => ?_)
        have l42_0 : en_ld l42 0 = some (gx_r 0) := ml42 0 _ l41_0 rfl
        have l42_1 : en_ld l42 1 = some (.inl x) := ml42 1 _ l41_1 rfl
        have l42_2 : en_ld l42 2 = some (.inl (wrn w L δ σ k)) := ml42 2 _ l41_2 rfl
        have l42_4 : en_ld l42 4 = some (.inl 0) := ml42 4 _ hl41 rfl
        refine ex_go (S := (27, l42, [], t140, n, 0)) rfl (fun _ => rfl) rfl ?_
        exact ih (k + 1) _ _ (by first | decide | omega) g140 (fun c i h => (e140 c i (by first | decide | omega)).trans (e0 c i (by first | decide | omega))) y9 l42_0 l42_1 (by rw [wrn_s (Or.inl hcn)]; exact l42_2) hl42
      · show en_ex _ _ _ _ (70, cl, [.inl ((δ k).2.2), .inl ((δ k).2.1), .inl 3, gx_r 15, gx_r 0], t0, n, 0) _
        obtain ⟨_, r143, y143, t143, rfl, g143, e143, a143, b143⟩ := sc_act3_15_191 d n (σ := sqn w L δ σ k) (c := (δ k).2.1) (to := (δ k).2.2) g0 (CW_keep hC (fun c i h => e0 c i (by first | decide | omega))) hw hjk.1 hS k9 hc0
        obtain ⟨rfl, e9⟩ := b143 hm
        have hcn : ¬ dlc w (sqn w L δ σ k) (δ k) := fun q9 => hm ((dlc_3 hk0).mp q9)
        have y9 : SC t143 15 (w 0 2) (w 0 4) (sqn w L δ σ (k + 1)) := by
          show SC t143 15 (w 0 2) (w 0 4) (dls w L (sqn w L δ σ k) (δ k))
          rw [dls_n hcn, e9]
          exact hS
        refine gx_callo (a := 0) rfl rfl g0 rfl rfl rfl r143 rfl ?_
        show en_ex _ _ _ _ (73, cl, [.inl 4294967295], t143, n, 0) _
        refine gx_sto (i := 4) (d := 0) rfl (fun _ => rfl) rfl rfl (fun l44 hl44 ml44 => ?_)
        have l44_0 : en_ld l44 0 = some (gx_r 0) := ml44 0 _ l0 rfl
        have l44_1 : en_ld l44 1 = some (.inl x) := ml44 1 _ l1 rfl
        have l44_2 : en_ld l44 2 = some (.inl (wrn w L δ σ k)) := ml44 2 _ l2 rfl
        have l44_3 : en_ld l44 3 = some (.inl k) := ml44 3 _ l3 rfl
        refine gx_ld (i := 4) (d := 0) (v := .inl 4294967295) rfl (fun _ => rfl) hl44 rfl rfl ?_
        refine ex_go (S := (78, l44, [.inl 4294967295, .inl 4294967295], t143, n, 0)) rfl (fun _ => rfl) rfl ?_
        refine ex_go (S := (81, l44, [], t143, n, 0)) rfl (fun _ => rfl) rfl ?_
        refine gx_ld (i := 2) (d := 0) (v := .inl (wrn w L δ σ k)) rfl (fun _ => rfl) l44_2 rfl rfl ?_
        rcases wrn_bd (w := w) (L := L) (δ := δ) (σ := σ) k with e8 | e8
        · rw [e8]
          show en_ex _ _ _ _ (82, l44, [.inl 4294967295], t143, n, 0) _
          refine ex_go (S := (83, l44, [.inl 4294967295, .inl 4294967295], t143, n, 0)) rfl (fun _ => rfl) rfl ?_
          refine ex_go (S := (86, l44, [], t143, n, 0)) rfl (fun _ => rfl) rfl ?_
          refine gx_ld (i := 3) (d := 0) (v := .inl k) rfl (fun _ => rfl) l44_3 rfl rfl ?_
          refine gx_sto (i := 2) (d := 0) rfl (fun _ => rfl) rfl rfl (fun l45 hl45 ml45 => ?_)
          have l45_0 : en_ld l45 0 = some (gx_r 0) := ml45 0 _ l44_0 rfl
          have l45_1 : en_ld l45 1 = some (.inl x) := ml45 1 _ l44_1 rfl
          have l45_3 : en_ld l45 3 = some (.inl k) := ml45 3 _ l44_3 rfl
          have l45_4 : en_ld l45 4 = some (.inl 4294967295) := ml45 4 _ hl44 rfl
          refine gx_incS (i := 3) (a := k) (x := 1) rfl (fun _ => rfl) l45_3 (by first | decide | omega) rfl (fun l46 hl46 ml46 => ?_)
          have l46_0 : en_ld l46 0 = some (gx_r 0) := ml46 0 _ l45_0 rfl
          have l46_1 : en_ld l46 1 = some (.inl x) := ml46 1 _ l45_1 rfl
          have l46_4 : en_ld l46 4 = some (.inl 4294967295) := ml46 4 _ l45_4 rfl
          have l46_2 : en_ld l46 2 = some (.inl k) := ml46 2 _ hl45 rfl
          refine ex_go (S := (27, l46, [], t143, n, 0)) rfl (fun _ => rfl) rfl ?_
          exact ih (k + 1) _ _ (by first | decide | omega) g143 (fun c i h => (e143 c i (by first | decide | omega)).trans (e0 c i (by first | decide | omega))) y9 l46_0 l46_1 (by rw [wrn_k hcn e8]; exact l46_2) hl46
        · have := e8
          refine ex_go (S := (83, l44, [.inl 4294967295, .inl (wrn w L δ σ k)], t143, n, 0)) rfl (fun _ => rfl) rfl ?_
          refine gx_2mt (c := .ne) rfl (by first | decide | omega) rfl rfl ?_
          refine gx_incS (i := 3) (a := k) (x := 1) rfl (fun _ => rfl) l44_3 (by first | decide | omega) rfl (fun l47 hl47 ml47 => ?_)
          have l47_0 : en_ld l47 0 = some (gx_r 0) := ml47 0 _ l44_0 rfl
          have l47_1 : en_ld l47 1 = some (.inl x) := ml47 1 _ l44_1 rfl
          have l47_2 : en_ld l47 2 = some (.inl (wrn w L δ σ k)) := ml47 2 _ l44_2 rfl
          have l47_4 : en_ld l47 4 = some (.inl 4294967295) := ml47 4 _ hl44 rfl
          refine ex_go (S := (27, l47, [], t143, n, 0)) rfl (fun _ => rfl) rfl ?_
          exact ih (k + 1) _ _ (by first | decide | omega) g143 (fun c i h => (e143 c i (by first | decide | omega)).trans (e0 c i (by first | decide | omega))) y9 l47_0 l47_1 (by rw [wrn_s (Or.inr (by first | decide | omega))]; exact l47_2) hl47
theorem sc_judged191_323 (d n : Nat) {t0 : en_H} {w : Nat → Nat → Nat} {L : List Nat} {σ : Nat → Nat} {δ : Nat → Nat × Nat × Nat} {nl x : Nat} (g0 : ai_HG ah_G t0) (hC : CW t0 191 w L) (hw : WS w) (hX : CX t0 191 w) (k10 : ai_hv t0 0 10 = some (gx_r 191)) (k12 : ai_hv t0 0 12 = some (gx_r 323)) (kn : ai_hv t0 323 5 = some (.inl nl)) (hn : nl ≤ 24) (hr : ∀ k, k < nl → ai_hv t0 325 k = some (.inl (δ k).1) ∧ ai_hv t0 326 k = some (.inl (δ k).2.1) ∧ ai_hv t0 327 k = some (.inl (δ k).2.2)) (hd : ∀ k, k < nl → dok w (δ k)) (hj : jbd σ 0) (z0 : σ 0 = 0) (z1 : ∀ i, i < w 0 2 → σ (1 + i) = w 6 i) (z7 : ∀ c, c < w 0 4 → σ (7 + c) = w 4 c) (z9 : ∀ j, 9 ≤ j → σ j = 0) (hx : x < 4294967296) : ∃ r, en_u (d + 6) 52 [gx_r 0, .inl x] t0 n = some r ∧ ∃ v t', r = (some (.inl v), t', n, 0) ∧ ai_HG ah_G t' ∧ (∀ c i, ¬ (c = 231 ∨ (15 ≤ c ∧ c ≤ 21)) → ai_hv t' c i = ai_hv t0 c i) ∧ ((x ≤ 2 → v = jan w L δ σ nl x) ∧ (¬ x ≤ 2 → v = 4294967294)) := by
  have hT := hw.1.2.2.1
  have hK := hw.1.2.2.2.2.1
  refine en_u_ex (d := d + 5) rfl ?_
  show en_ex _ _ _ _ (0, [(0, gx_r 0), (1, .inl x)], [], t0, n, 0) _
  refine ex_go (S := (1, [(0, gx_r 0), (1, .inl x)], [.inl x], t0, n, 0)) rfl (fun _ => rfl) rfl ?_
  refine ex_go (S := (2, [(0, gx_r 0), (1, .inl x)], [.inl 0, .inl x], t0, n, 0)) rfl (fun _ => rfl) rfl ?_
  refine ex_go (S := (3, [(0, gx_r 0), (1, .inl x)], [.inl 2, .inl 0, .inl x], t0, n, 0)) rfl (fun _ => rfl) rfl ?_
  obtain ⟨_, r21, b22, rfl, b22b, q23⟩ := pz_isWithin (d + 4) n (t0 := t0) (x := x) (lo := 0) (hi := 2) (by first | decide | omega) (by first | decide | omega) (by first | decide | omega)
  refine ex_stat rfl rfl rfl rfl rfl r21 (Nat.le_refl _) rfl ?_
  show en_ex _ _ _ _ (6, [(0, gx_r 0), (1, .inl x)], [.inl b22], t0, n, 0) _
  by_cases hc24 : b22 ≠ 0
  · refine gx_1t (c := .ne) rfl (by first | decide | omega) hc24 rfl ?_
    refine ex_go (S := (13, [(0, gx_r 0), (1, .inl x)], [gx_r 0], t0, n, 0)) rfl (fun _ => rfl) rfl ?_
    refine gxo_ref (a := 0) (c := 15) rfl g0 rfl rfl rfl rfl rfl ?_
    refine ex_go (S := (17, [(0, gx_r 0), (1, .inl x)], [gx_r 0, gx_r 15], t0, n, 0)) rfl (fun _ => rfl) rfl ?_
    refine gxo_get (a := 0) rfl g0 rfl rfl k10 rfl ?_
    obtain ⟨_, r125, t125, rfl, g125, e125, b0, b1, b2⟩ := pc_begin15_191 (d + 3) n (T := w 0 2) (P := w 6) (K := w 0 4) (B := w 4) g0 hT hC.1.2.2.2.1 (fun i hi => (hC.2.2.2.1 i hi).2) (fun i hi => (hw.2.2.1 i hi).2) hK hC.1.2.2.2.2.2 (fun c hc => (hC.2.2.1 c hc).2.2) (fun c hc => (hw.2.1 c hc).2.2)
    have hS9 : SC t125 15 (w 0 2) (w 0 4) σ := ⟨by rw [z0]; exact b0, fun i hi => by rw [z1 i hi]; exact b1 i hi, fun c hc => by
      obtain ⟨y1, y2, y3, y4, -⟩ := b2 c hc
      rw [z7 c hc, z9 (9 + c) (by first | decide | omega), z9 (11 + c) (by first | decide | omega), z9 (15 + c) (by first | decide | omega)]
      exact ⟨y1, y2, y3, y4, fun z => absurd z (by decide)⟩⟩
    refine gx_callo (a := 15) rfl rfl g0 rfl rfl rfl r125 rfl ?_
    have k26 : ai_hv t125 0 10 = some (gx_r 191) := (e125 0 10 (by first | decide | omega)).trans k10
    show en_ex _ _ _ _ (23, [(0, gx_r 0), (1, .inl x)], [], t125, n, 0) _
    refine ex_go (S := (24, [(0, gx_r 0), (1, .inl x)], [.inl 4294967295], t125, n, 0)) rfl (fun _ => rfl) rfl ?_
    refine ex_go (S := (25, [(2, .inl 4294967295), (0, gx_r 0), (1, .inl x)], [], t125, n, 0)) rfl (fun _ => rfl) rfl ?_
    refine ex_go (S := (26, [(2, .inl 4294967295), (0, gx_r 0), (1, .inl x)], [.inl 0], t125, n, 0)) rfl (fun _ => rfl) rfl ?_
    refine ex_go (S := (27, [(3, .inl 0), (2, .inl 4294967295), (0, gx_r 0), (1, .inl x)], [], t125, n, 0)) rfl (fun _ => rfl) rfl ?_
    refine jc_l191_323 d n (tb := t125) (σ := σ) (δ := δ) (nl := nl) (x := x) (CW_keep hC (fun c i h => e125 c i (by first | decide | omega))) hw (CX_keep hX (fun c i h => e125 c i (by first | decide | omega))) ((e125 0 10 (by first | decide | omega)).trans k10) ((e125 0 12 (by first | decide | omega)).trans k12) ((e125 323 5 (by first | decide | omega)).trans kn) hn (fun k hk => ⟨(e125 325 k (by first | decide | omega)).trans (hr k hk).1, (e125 326 k (by first | decide | omega)).trans (hr k hk).2.1, (e125 327 k (by first | decide | omega)).trans (hr k hk).2.2⟩) hd hj (fun cl t127 g127 e127 y127 l1270 l1271 l1272 => ?_) nl 0 _ _ (by first | decide | omega) g125 (fun _ _ _ => rfl) hS9 rfl rfl rfl rfl
    have k15 := y127.1
    have hwb := wrn_bd (w := w) (L := L) (δ := δ) (σ := σ) nl
    have k9 : ai_hv t127 0 10 = some (gx_r 191) := ((e127 0 10 (by first | decide | omega)).trans (e125 0 10 (by first | decide | omega))).trans k10
    refine gx_ld (i := 1) (d := 0) (v := .inl x) rfl (fun _ => rfl) l1271 rfl rfl ?_
    by_cases hc28 : x ≠ 0
    · refine gx_1t (c := .ne) rfl (by first | decide | omega) hc28 rfl ?_
      refine gx_ld (i := 1) (d := 0) (v := .inl x) rfl (fun _ => rfl) l1271 rfl rfl ?_
      refine ex_go (S := (102, cl, [.inl 1, .inl x], t127, n, 0)) rfl (fun _ => rfl) rfl ?_
      by_cases hc29 : x ≠ 1
      · refine gx_2t (c := .ne) rfl (by first | decide | omega) (by first | decide | omega) hc29 rfl ?_
        refine gx_ld (i := 0) (d := 2) (v := gx_r 0) rfl (fun _ => rfl) l1270 rfl rfl ?_
        refine gxo_ref (a := 0) (c := 15) rfl g127 rfl rfl rfl rfl rfl ?_
        refine gx_ld (i := 0) (d := 2) (v := gx_r 0) rfl (fun _ => rfl) l1270 rfl rfl ?_
        refine gxo_get (a := 0) rfl g127 rfl rfl k9 rfl ?_
        obtain ⟨_, r9, rfl⟩ := sc_bis191 (d + 4) n (σ := sqn w L δ σ nl) (B := 30 * nl) g127 (CW_keep hC (fun c i h => (e127 c i (by first | decide | omega)).trans (e125 c i (by first | decide | omega)))) hw y127 (jbd_sqn hw hd hn hj nl (Nat.le_refl _))
        refine gx_callo (a := 15) rfl rfl g127 rfl rfl rfl r9 rfl ?_
        show en_ex _ _ _ _ (126, cl, [.inl (bsm (sqn w L δ σ nl) (w 0 4))], t127, n, 0) _
        refine ex_ret (r := (some (.inl (bsm (sqn w L δ σ nl) (w 0 4))), t127, n, 0)) rfl (fun _ => rfl) ?_
        exact ⟨_, rfl, _, _, rfl, g127, (fun c i h => (e127 c i (by first | decide | omega)).trans (e125 c i (by first | decide | omega))), (fun _ => ((if_neg (by first | decide | omega)).trans (if_neg (by first | decide | omega))).symm), (fun c9 => by omega)⟩
      · refine gx_2f (c := .ne) rfl (by first | decide | omega) (by first | decide | omega) hc29 rfl ?_
        refine gx_ld (i := 0) (d := 2) (v := gx_r 0) rfl (fun _ => rfl) l1270 rfl rfl ?_
        refine gxo_ref (a := 0) (c := 15) rfl g127 rfl rfl rfl rfl rfl ?_
        refine gxo_get (a := 15) rfl g127 rfl rfl k15 rfl ?_
        refine ex_go (S := (126, cl, [.inl (sqn w L δ σ nl 0)], t127, n, 0)) rfl (fun _ => rfl) rfl ?_
        refine ex_ret (r := (some (.inl (sqn w L δ σ nl 0)), t127, n, 0)) rfl (fun _ => rfl) ?_
        exact ⟨_, rfl, _, _, rfl, g127, (fun c i h => (e127 c i (by first | decide | omega)).trans (e125 c i (by first | decide | omega))), (fun _ => ((if_neg (by first | decide | omega)).trans (if_pos (by first | decide | omega))).symm), (fun c9 => by omega)⟩
    · refine gx_1f (c := .ne) rfl (by first | decide | omega) hc28 rfl ?_
      refine gx_ld (i := 2) (d := 0) (v := .inl (wrn w L δ σ nl)) rfl (fun _ => rfl) l1272 rfl rfl ?_
      refine ex_ret (r := (some (.inl (wrn w L δ σ nl)), t127, n, 0)) rfl (fun _ => rfl) ?_
      exact ⟨_, rfl, _, _, rfl, g127, (fun c i h => (e127 c i (by first | decide | omega)).trans (e125 c i (by first | decide | omega))), (fun _ => (if_pos (by first | decide | omega)).symm), (fun c9 => by omega)⟩
  · refine gx_1f (c := .ne) rfl (by first | decide | omega) hc24 rfl ?_
    refine ex_go (S := (11, [(0, gx_r 0), (1, .inl x)], [.inl 4294967294], t0, n, 0)) rfl (fun _ => rfl) rfl ?_
    refine ex_ret (r := (some (.inl 4294967294), t0, n, 0)) rfl (fun _ => rfl) ?_
    exact ⟨_, rfl, _, _, rfl, g0, (fun _ _ _ => rfl), (fun c9 => by omega), (fun _ => rfl)⟩
theorem jc_l191_329 (d n : Nat) {tb : en_H} {w : Nat → Nat → Nat} {L : List Nat} {σ : Nat → Nat} {δ : Nat → Nat × Nat × Nat} {nl x : Nat} {Q : en_O → Prop} (hC : CW tb 191 w L) (hw : WS w) (hX : CX tb 191 w) (k10 : ai_hv tb 0 10 = some (gx_r 191)) (k12 : ai_hv tb 0 12 = some (gx_r 329)) (kn : ai_hv tb 329 5 = some (.inl nl)) (hn : nl ≤ 24) (hr : ∀ k, k < nl → ai_hv tb 331 k = some (.inl (δ k).1) ∧ ai_hv tb 332 k = some (.inl (δ k).2.1) ∧ ai_hv tb 333 k = some (.inl (δ k).2.2)) (hd : ∀ k, k < nl → dok w (δ k)) (hj : jbd σ 0) (hQ : ∀ cl t1, ai_HG ah_G t1 → (∀ c i, ¬ (c = 231 ∨ (15 ≤ c ∧ c ≤ 21)) → ai_hv t1 c i = ai_hv tb c i) → SC t1 15 (w 0 2) (w 0 4) (sqn w L δ σ nl) → en_ld cl 0 = some (gx_r 0) → en_ld cl 1 = some (.inl x) → en_ld cl 2 = some (.inl (wrn w L δ σ nl)) → en_ex none (en_u (d + 5)) (en_code 52) (fun _ => false) (94, cl, [], t1, n, 0) Q) : ∀ j k cl t0, k + j = nl → ai_HG ah_G t0 → (∀ c i, ¬ (c = 231 ∨ (15 ≤ c ∧ c ≤ 21)) → ai_hv t0 c i = ai_hv tb c i) → SC t0 15 (w 0 2) (w 0 4) (sqn w L δ σ k) → en_ld cl 0 = some (gx_r 0) → en_ld cl 1 = some (.inl x) → en_ld cl 2 = some (.inl (wrn w L δ σ k)) → en_ld cl 3 = some (.inl k) → en_ex none (en_u (d + 5)) (en_code 52) (fun _ => false) (27, cl, [], t0, n, 0) Q := by
  intro j
  induction j with
  | zero =>
    intro k cl t0 hk g0 e0 hS l0 l1 l2 l3
    have k9 := (e0 0 10 (by first | decide | omega)).trans k10
    have k8 := (e0 0 12 (by first | decide | omega)).trans k12
    have kn0 := (e0 329 5 (by first | decide | omega)).trans kn
    have hk : k = nl := by omega
    subst hk
    refine gx_ld (i := 3) (d := 0) (v := .inl k) rfl (fun _ => rfl) l3 rfl rfl ?_
    refine gx_ld (i := 0) (d := 2) (v := gx_r 0) rfl (fun _ => rfl) l0 rfl rfl ?_
    refine gxo_get (a := 0) rfl g0 rfl rfl k8 rfl ?_
    refine gxo_get (a := 329) rfl g0 rfl rfl kn0 rfl ?_
    refine gx_2t (c := .ge) rfl (by first | decide | omega) (by first | decide | omega) (show k ≤ k from by omega) rfl ?_
    exact hQ _ _ g0 e0 hS l0 l1 l2
  | succ j ih =>
    intro k cl t0 hk g0 e0 hS l0 l1 l2 l3
    have k9 := (e0 0 10 (by first | decide | omega)).trans k10
    have k8 := (e0 0 12 (by first | decide | omega)).trans k12
    have kn0 := (e0 329 5 (by first | decide | omega)).trans kn
    have kr1 := (e0 331 k (by first | decide | omega)).trans (hr k (by first | decide | omega)).1
    have kr2 := (e0 332 k (by first | decide | omega)).trans (hr k (by first | decide | omega)).2.1
    have kr3 := (e0 333 k (by first | decide | omega)).trans (hr k (by first | decide | omega)).2.2
    have hjk := jbd_sqn (L := L) hw hd hn hj k (by first | decide | omega)
    have hs0 := hjk.2.2
    have hK := hw.1.2.2.2.2.1
    refine gx_ld (i := 3) (d := 0) (v := .inl k) rfl (fun _ => rfl) l3 rfl rfl ?_
    refine gx_ld (i := 0) (d := 2) (v := gx_r 0) rfl (fun _ => rfl) l0 rfl rfl ?_
    refine gxo_get (a := 0) rfl g0 rfl rfl k8 rfl ?_
    refine gxo_get (a := 329) rfl g0 rfl rfl kn0 rfl ?_
    refine gx_2f (c := .ge) rfl (by first | decide | omega) (by first | decide | omega) (show ¬ (nl ≤ k) from by omega) rfl ?_
    refine gx_ld (i := 0) (d := 2) (v := gx_r 0) rfl (fun _ => rfl) l0 rfl rfl ?_
    refine gx_ld (i := 0) (d := 2) (v := gx_r 0) rfl (fun _ => rfl) l0 rfl rfl ?_
    refine gxo_ref (a := 0) (c := 15) rfl g0 rfl rfl rfl rfl rfl ?_
    refine gx_ld (i := 0) (d := 2) (v := gx_r 0) rfl (fun _ => rfl) l0 rfl rfl ?_
    refine gxo_get (a := 0) rfl g0 rfl rfl k8 rfl ?_
    refine gxo_ref (a := 329) (c := 331) rfl g0 rfl rfl rfl rfl rfl ?_
    refine gx_ld (i := 3) (d := 0) (v := .inl k) rfl (fun _ => rfl) l3 rfl rfl ?_
    refine gx_ag (v := .inl ((δ k).1)) (cb := fun c => Nat.beq c 0) rfl (fun _ => rfl) g0 rfl rfl kr1 (by first | decide | omega) rfl ?_
    refine gx_ld (i := 0) (d := 2) (v := gx_r 0) rfl (fun _ => rfl) l0 rfl rfl ?_
    refine gxo_get (a := 0) rfl g0 rfl rfl k8 rfl ?_
    refine gxo_ref (a := 329) (c := 332) rfl g0 rfl rfl rfl rfl rfl ?_
    refine gx_ld (i := 3) (d := 0) (v := .inl k) rfl (fun _ => rfl) l3 rfl rfl ?_
    refine gx_ag (v := .inl ((δ k).2.1)) (cb := fun c => Nat.beq c 0) rfl (fun _ => rfl) g0 rfl rfl kr2 (by first | decide | omega) rfl ?_
    refine gx_ld (i := 0) (d := 2) (v := gx_r 0) rfl (fun _ => rfl) l0 rfl rfl ?_
    refine gxo_get (a := 0) rfl g0 rfl rfl k8 rfl ?_
    refine gxo_ref (a := 329) (c := 333) rfl g0 rfl rfl rfl rfl rfl ?_
    refine gx_ld (i := 3) (d := 0) (v := .inl k) rfl (fun _ => rfl) l3 rfl rfl ?_
    refine gx_ag (v := .inl ((δ k).2.2)) (cb := fun c => Nat.beq c 0) rfl (fun _ => rfl) g0 rfl rfl kr3 (by first | decide | omega) rfl ?_
    rcases hd k (by first | decide | omega) with ⟨hk0, hv0⟩ | ⟨hk0, hc0, hv0⟩ | ⟨hk0, hc0, hv0⟩ | ⟨hk0, hc0⟩
    · rw [hk0]
      show en_ex _ _ _ _ (70, cl, [.inl ((δ k).2.2), .inl ((δ k).2.1), .inl 0, gx_r 15, gx_r 0], t0, n, 0) _
      obtain ⟨_, r121, t121, rfl, g121, e121, y121⟩ := sc_act0_15_191 d n (x := (δ k).2.2) (cr := (δ k).2.1) (σ := sqn w L δ σ k) g0 (CW_keep hC (fun c i h => e0 c i (by first | decide | omega))) hw hjk.1 k9 hv0 hS
      have hval : itp w L (δ k).2.2 (sqn w L δ σ k) 0 ≤ 1000 := by
        rw [itp_0 hs0 (by first | decide | omega) _ hv0]
        omega
      have hcn : dlc w (sqn w L δ σ k) (δ k) := Or.inl hk0
      have y9 : SC t121 15 (w 0 2) (w 0 4) (sqn w L δ σ (k + 1)) := by
        show SC t121 15 (w 0 2) (w 0 4) (dls w L (sqn w L δ σ k) (δ k))
        rw [dls_0 hk0]
        exact y121
      refine gx_callo (a := 0) rfl rfl g0 rfl rfl rfl r121 rfl ?_
      show en_ex _ _ _ _ (73, cl, [.inl (itp w L (δ k).2.2 (sqn w L δ σ k) 0)], t121, n, 0) _
      refine gx_sto (i := 4) (d := 0) rfl (fun _ => rfl) rfl rfl (fun l22 hl22 ml22 => ?_)
      have l22_0 : en_ld l22 0 = some (gx_r 0) := ml22 0 _ l0 rfl
      have l22_1 : en_ld l22 1 = some (.inl x) := ml22 1 _ l1 rfl
      have l22_2 : en_ld l22 2 = some (.inl (wrn w L δ σ k)) := ml22 2 _ l2 rfl
      have l22_3 : en_ld l22 3 = some (.inl k) := ml22 3 _ l3 rfl
      refine gx_ld (i := 4) (d := 0) (v := .inl (itp w L (δ k).2.2 (sqn w L δ σ k) 0)) rfl (fun _ => rfl) hl22 rfl rfl ?_
      refine ex_go (S := (78, l22, [.inl 4294967295, .inl (itp w L (δ k).2.2 (sqn w L δ σ k) 0)], t121, n, 0)) rfl (fun _ => rfl) rfl ?_
      refine gx_2mt (c := .ne) rfl (by first | decide | omega) rfl rfl ?_
      refine gx_incS (i := 3) (a := k) (x := 1) rfl (fun _ => rfl) l22_3 (by first | decide | omega) rfl (fun l23 hl23 ml23 => ?_)
      have l23_0 : en_ld l23 0 = some (gx_r 0) := ml23 0 _ l22_0 rfl
      have l23_1 : en_ld l23 1 = some (.inl x) := ml23 1 _ l22_1 rfl
      have l23_2 : en_ld l23 2 = some (.inl (wrn w L δ σ k)) := ml23 2 _ l22_2 rfl
      have l23_4 : en_ld l23 4 = some (.inl (itp w L (δ k).2.2 (sqn w L δ σ k) 0)) := ml23 4 _ hl22 rfl
      refine ex_go (S := (27, l23, [], t121, n, 0)) rfl (fun _ => rfl) rfl ?_
      exact ih (k + 1) _ _ (by first | decide | omega) g121 (fun c i h => (e121 c i (by first | decide | omega)).trans (e0 c i (by first | decide | omega))) y9 l23_0 l23_1 (by rw [wrn_s (Or.inl hcn)]; exact l23_2) hl23
    · rw [hk0]
      by_cases hm : mayH w (sqn w L δ σ k) (δ k).2.1 (δ k).2.2
      · show en_ex _ _ _ _ (70, cl, [.inl ((δ k).2.2), .inl ((δ k).2.1), .inl 1, gx_r 15, gx_r 0], t0, n, 0) _
        obtain ⟨_, r124, y124, t124, rfl, g124, e124, a124, b124⟩ := sc_act1_15_191 d n (σ := sqn w L δ σ k) (c := (δ k).2.1) (to := (δ k).2.2) g0 (CW_keep hC (fun c i h => e0 c i (by first | decide | omega))) hw hjk.1 hS k9 (CX_keep hX (fun c i h => e0 c i (by first | decide | omega))) (by first | decide | omega) hv0 hc0
        obtain ⟨rfl, y1⟩ := a124 hm
        have hcn : dlc w (sqn w L δ σ k) (δ k) := (dlc_1 hk0).mpr hm
        have y9 : SC t124 15 (w 0 2) (w 0 4) (sqn w L δ σ (k + 1)) := by
          show SC t124 15 (w 0 2) (w 0 4) (dls w L (sqn w L δ σ k) (δ k))
          rw [dls_1 hk0 hm]
          exact y1
        refine gx_callo (a := 0) rfl rfl g0 rfl rfl rfl r124 rfl ?_
        show en_ex _ _ _ _ (73, cl, [.inl 0], t124, n, 0) _
        refine gx_sto (i := 4) (d := 0) rfl (fun _ => rfl) rfl rfl (fun l25 hl25 ml25 => ?_)
        have l25_0 : en_ld l25 0 = some (gx_r 0) := ml25 0 _ l0 rfl
        have l25_1 : en_ld l25 1 = some (.inl x) := ml25 1 _ l1 rfl
        have l25_2 : en_ld l25 2 = some (.inl (wrn w L δ σ k)) := ml25 2 _ l2 rfl
        have l25_3 : en_ld l25 3 = some (.inl k) := ml25 3 _ l3 rfl
        refine gx_ld (i := 4) (d := 0) (v := .inl 0) rfl (fun _ => rfl) hl25 rfl rfl ?_
        refine ex_go (S := (78, l25, [.inl 4294967295, .inl 0], t124, n, 0)) rfl (fun _ => rfl) rfl ?_
        refine ex_go (S := (88, l25, [], t124, n, 0)) rfl (fun _ => rfl) rfl ?_
        refine gx_incS (i := 3) (a := k) (x := 1) rfl (fun _ => rfl) l25_3 (by first | decide | omega) rfl (fun l26 hl26 ml26 => ?_)
        have l26_0 : en_ld l26 0 = some (gx_r 0) := ml26 0 _ l25_0 rfl
        have l26_1 : en_ld l26 1 = some (.inl x) := ml26 1 _ l25_1 rfl
        have l26_2 : en_ld l26 2 = some (.inl (wrn w L δ σ k)) := ml26 2 _ l25_2 rfl
        have l26_4 : en_ld l26 4 = some (.inl 0) := ml26 4 _ hl25 rfl
        refine ex_go (S := (27, l26, [], t124, n, 0)) rfl (fun _ => rfl) rfl ?_
        exact ih (k + 1) _ _ (by first | decide | omega) g124 (fun c i h => (e124 c i (by first | decide | omega)).trans (e0 c i (by first | decide | omega))) y9 l26_0 l26_1 (by rw [wrn_s (Or.inl hcn)]; exact l26_2) hl26
      · show en_ex _ _ _ _ (70, cl, [.inl ((δ k).2.2), .inl ((δ k).2.1), .inl 1, gx_r 15, gx_r 0], t0, n, 0) _
        obtain ⟨_, r127, y127, t127, rfl, g127, e127, a127, b127⟩ := sc_act1_15_191 d n (σ := sqn w L δ σ k) (c := (δ k).2.1) (to := (δ k).2.2) g0 (CW_keep hC (fun c i h => e0 c i (by first | decide | omega))) hw hjk.1 hS k9 (CX_keep hX (fun c i h => e0 c i (by first | decide | omega))) (by first | decide | omega) hv0 hc0
        obtain ⟨rfl, e9⟩ := b127 hm
        have hcn : ¬ dlc w (sqn w L δ σ k) (δ k) := fun q9 => hm ((dlc_1 hk0).mp q9)
        have y9 : SC t127 15 (w 0 2) (w 0 4) (sqn w L δ σ (k + 1)) := by
          show SC t127 15 (w 0 2) (w 0 4) (dls w L (sqn w L δ σ k) (δ k))
          rw [dls_n hcn, e9]
          exact hS
        refine gx_callo (a := 0) rfl rfl g0 rfl rfl rfl r127 rfl ?_
        show en_ex _ _ _ _ (73, cl, [.inl 4294967295], t127, n, 0) _
        refine gx_sto (i := 4) (d := 0) rfl (fun _ => rfl) rfl rfl (fun l28 hl28 ml28 => ?_)
        have l28_0 : en_ld l28 0 = some (gx_r 0) := ml28 0 _ l0 rfl
        have l28_1 : en_ld l28 1 = some (.inl x) := ml28 1 _ l1 rfl
        have l28_2 : en_ld l28 2 = some (.inl (wrn w L δ σ k)) := ml28 2 _ l2 rfl
        have l28_3 : en_ld l28 3 = some (.inl k) := ml28 3 _ l3 rfl
        refine gx_ld (i := 4) (d := 0) (v := .inl 4294967295) rfl (fun _ => rfl) hl28 rfl rfl ?_
        refine ex_go (S := (78, l28, [.inl 4294967295, .inl 4294967295], t127, n, 0)) rfl (fun _ => rfl) rfl ?_
        refine ex_go (S := (81, l28, [], t127, n, 0)) rfl (fun _ => rfl) rfl ?_
        refine gx_ld (i := 2) (d := 0) (v := .inl (wrn w L δ σ k)) rfl (fun _ => rfl) l28_2 rfl rfl ?_
        rcases wrn_bd (w := w) (L := L) (δ := δ) (σ := σ) k with e8 | e8
        · rw [e8]
          show en_ex _ _ _ _ (82, l28, [.inl 4294967295], t127, n, 0) _
          refine ex_go (S := (83, l28, [.inl 4294967295, .inl 4294967295], t127, n, 0)) rfl (fun _ => rfl) rfl ?_
          refine ex_go (S := (86, l28, [], t127, n, 0)) rfl (fun _ => rfl) rfl ?_
          refine gx_ld (i := 3) (d := 0) (v := .inl k) rfl (fun _ => rfl) l28_3 rfl rfl ?_
          refine gx_sto (i := 2) (d := 0) rfl (fun _ => rfl) rfl rfl (fun l29 hl29 ml29 => ?_)
          have l29_0 : en_ld l29 0 = some (gx_r 0) := ml29 0 _ l28_0 rfl
          have l29_1 : en_ld l29 1 = some (.inl x) := ml29 1 _ l28_1 rfl
          have l29_3 : en_ld l29 3 = some (.inl k) := ml29 3 _ l28_3 rfl
          have l29_4 : en_ld l29 4 = some (.inl 4294967295) := ml29 4 _ hl28 rfl
          refine gx_incS (i := 3) (a := k) (x := 1) rfl (fun _ => rfl) l29_3 (by first | decide | omega) rfl (fun l30 hl30 ml30 => ?_)
          have l30_0 : en_ld l30 0 = some (gx_r 0) := ml30 0 _ l29_0 rfl
          have l30_1 : en_ld l30 1 = some (.inl x) := ml30 1 _ l29_1 rfl
          have l30_4 : en_ld l30 4 = some (.inl 4294967295) := ml30 4 _ l29_4 rfl
          have l30_2 : en_ld l30 2 = some (.inl k) := ml30 2 _ hl29 rfl
          refine ex_go (S := (27, l30, [], t127, n, 0)) rfl (fun _ => rfl) rfl ?_
          exact ih (k + 1) _ _ (by first | decide | omega) g127 (fun c i h => (e127 c i (by first | decide | omega)).trans (e0 c i (by first | decide | omega))) y9 l30_0 l30_1 (by rw [wrn_k hcn e8]; exact l30_2) hl30
        · have := e8
          refine ex_go (S := (83, l28, [.inl 4294967295, .inl (wrn w L δ σ k)], t127, n, 0)) rfl (fun _ => rfl) rfl ?_
          refine gx_2mt (c := .ne) rfl (by first | decide | omega) rfl rfl ?_
          refine gx_incS (i := 3) (a := k) (x := 1) rfl (fun _ => rfl) l28_3 (by first | decide | omega) rfl (fun l31 hl31 ml31 => ?_)
          have l31_0 : en_ld l31 0 = some (gx_r 0) := ml31 0 _ l28_0 rfl
          have l31_1 : en_ld l31 1 = some (.inl x) := ml31 1 _ l28_1 rfl
          have l31_2 : en_ld l31 2 = some (.inl (wrn w L δ σ k)) := ml31 2 _ l28_2 rfl
          have l31_4 : en_ld l31 4 = some (.inl 4294967295) := ml31 4 _ hl28 rfl
          refine ex_go (S := (27, l31, [], t127, n, 0)) rfl (fun _ => rfl) rfl ?_
          exact ih (k + 1) _ _ (by first | decide | omega) g127 (fun c i h => (e127 c i (by first | decide | omega)).trans (e0 c i (by first | decide | omega))) y9 l31_0 l31_1 (by rw [wrn_s (Or.inr (by first | decide | omega))]; exact l31_2) hl31
    · rw [hk0]
      by_cases hm : mayL w (sqn w L δ σ k) (δ k).2.1
      · show en_ex _ _ _ _ (70, cl, [.inl ((δ k).2.2), .inl ((δ k).2.1), .inl 2, gx_r 15, gx_r 0], t0, n, 0) _
        obtain ⟨_, r132, y132, t132, rfl, g132, e132, a132, b132⟩ := sc_act2_15_191 d n (σ := sqn w L δ σ k) (c := (δ k).2.1) (v := (δ k).2.2) g0 (CW_keep hC (fun c i h => e0 c i (by first | decide | omega))) hw hjk.1 hS k9 hjk.2.1 hv0 hc0
        obtain ⟨rfl, y1⟩ := a132 hm
        have hcn : dlc w (sqn w L δ σ k) (δ k) := (dlc_2 hk0).mpr hm
        have y9 : SC t132 15 (w 0 2) (w 0 4) (sqn w L δ σ (k + 1)) := by
          show SC t132 15 (w 0 2) (w 0 4) (dls w L (sqn w L δ σ k) (δ k))
          rw [dls_2 hk0 hm]
          exact y1
        have hlv : lnv (sqn w L δ σ k) (δ k).2.1 (δ k).2.2 ≤ 999 := Nat.le_trans (Nat.min_le_left _ _) hv0
        refine gx_callo (a := 0) rfl rfl g0 rfl rfl rfl r132 rfl ?_
        show en_ex _ _ _ _ (73, cl, [.inl (lnv (sqn w L δ σ k) (δ k).2.1 (δ k).2.2)], t132, n, 0) _
        refine gx_sto (i := 4) (d := 0) rfl (fun _ => rfl) rfl rfl (fun l33 hl33 ml33 => ?_)
        have l33_0 : en_ld l33 0 = some (gx_r 0) := ml33 0 _ l0 rfl
        have l33_1 : en_ld l33 1 = some (.inl x) := ml33 1 _ l1 rfl
        have l33_2 : en_ld l33 2 = some (.inl (wrn w L δ σ k)) := ml33 2 _ l2 rfl
        have l33_3 : en_ld l33 3 = some (.inl k) := ml33 3 _ l3 rfl
        refine gx_ld (i := 4) (d := 0) (v := .inl (lnv (sqn w L δ σ k) (δ k).2.1 (δ k).2.2)) rfl (fun _ => rfl) hl33 rfl rfl ?_
        refine ex_go (S := (78, l33, [.inl 4294967295, .inl (lnv (sqn w L δ σ k) (δ k).2.1 (δ k).2.2)], t132, n, 0)) rfl (fun _ => rfl) rfl ?_
        refine gx_2mt (c := .ne) rfl (by first | decide | omega) rfl rfl ?_
        refine gx_incS (i := 3) (a := k) (x := 1) rfl (fun _ => rfl) l33_3 (by first | decide | omega) rfl (fun l34 hl34 ml34 => ?_)
        have l34_0 : en_ld l34 0 = some (gx_r 0) := ml34 0 _ l33_0 rfl
        have l34_1 : en_ld l34 1 = some (.inl x) := ml34 1 _ l33_1 rfl
        have l34_2 : en_ld l34 2 = some (.inl (wrn w L δ σ k)) := ml34 2 _ l33_2 rfl
        have l34_4 : en_ld l34 4 = some (.inl (lnv (sqn w L δ σ k) (δ k).2.1 (δ k).2.2)) := ml34 4 _ hl33 rfl
        refine ex_go (S := (27, l34, [], t132, n, 0)) rfl (fun _ => rfl) rfl ?_
        exact ih (k + 1) _ _ (by first | decide | omega) g132 (fun c i h => (e132 c i (by first | decide | omega)).trans (e0 c i (by first | decide | omega))) y9 l34_0 l34_1 (by rw [wrn_s (Or.inl hcn)]; exact l34_2) hl34
      · show en_ex _ _ _ _ (70, cl, [.inl ((δ k).2.2), .inl ((δ k).2.1), .inl 2, gx_r 15, gx_r 0], t0, n, 0) _
        obtain ⟨_, r135, y135, t135, rfl, g135, e135, a135, b135⟩ := sc_act2_15_191 d n (σ := sqn w L δ σ k) (c := (δ k).2.1) (v := (δ k).2.2) g0 (CW_keep hC (fun c i h => e0 c i (by first | decide | omega))) hw hjk.1 hS k9 hjk.2.1 hv0 hc0
        obtain ⟨rfl, e9⟩ := b135 hm
        have hcn : ¬ dlc w (sqn w L δ σ k) (δ k) := fun q9 => hm ((dlc_2 hk0).mp q9)
        have y9 : SC t135 15 (w 0 2) (w 0 4) (sqn w L δ σ (k + 1)) := by
          show SC t135 15 (w 0 2) (w 0 4) (dls w L (sqn w L δ σ k) (δ k))
          rw [dls_n hcn, e9]
          exact hS
        refine gx_callo (a := 0) rfl rfl g0 rfl rfl rfl r135 rfl ?_
        show en_ex _ _ _ _ (73, cl, [.inl 4294967295], t135, n, 0) _
        refine gx_sto (i := 4) (d := 0) rfl (fun _ => rfl) rfl rfl (fun l36 hl36 ml36 => ?_)
        have l36_0 : en_ld l36 0 = some (gx_r 0) := ml36 0 _ l0 rfl
        have l36_1 : en_ld l36 1 = some (.inl x) := ml36 1 _ l1 rfl
        have l36_2 : en_ld l36 2 = some (.inl (wrn w L δ σ k)) := ml36 2 _ l2 rfl
        have l36_3 : en_ld l36 3 = some (.inl k) := ml36 3 _ l3 rfl
        refine gx_ld (i := 4) (d := 0) (v := .inl 4294967295) rfl (fun _ => rfl) hl36 rfl rfl ?_
        refine ex_go (S := (78, l36, [.inl 4294967295, .inl 4294967295], t135, n, 0)) rfl (fun _ => rfl) rfl ?_
        refine ex_go (S := (81, l36, [], t135, n, 0)) rfl (fun _ => rfl) rfl ?_
        refine gx_ld (i := 2) (d := 0) (v := .inl (wrn w L δ σ k)) rfl (fun _ => rfl) l36_2 rfl rfl ?_
        rcases wrn_bd (w := w) (L := L) (δ := δ) (σ := σ) k with e8 | e8
        · rw [e8]
          show en_ex _ _ _ _ (82, l36, [.inl 4294967295], t135, n, 0) _
          refine ex_go (S := (83, l36, [.inl 4294967295, .inl 4294967295], t135, n, 0)) rfl (fun _ => rfl) rfl ?_
          refine ex_go (S := (86, l36, [], t135, n, 0)) rfl (fun _ => rfl) rfl ?_
          refine gx_ld (i := 3) (d := 0) (v := .inl k) rfl (fun _ => rfl) l36_3 rfl rfl ?_
          refine gx_sto (i := 2) (d := 0) rfl (fun _ => rfl) rfl rfl (fun l37 hl37 ml37 => ?_)
          have l37_0 : en_ld l37 0 = some (gx_r 0) := ml37 0 _ l36_0 rfl
          have l37_1 : en_ld l37 1 = some (.inl x) := ml37 1 _ l36_1 rfl
          have l37_3 : en_ld l37 3 = some (.inl k) := ml37 3 _ l36_3 rfl
          have l37_4 : en_ld l37 4 = some (.inl 4294967295) := ml37 4 _ hl36 rfl
          refine gx_incS (i := 3) (a := k) (x := 1) rfl (fun _ => rfl) l37_3 (by first | decide | omega) rfl (fun l38 hl38 ml38 => ?_)
          have l38_0 : en_ld l38 0 = some (gx_r 0) := ml38 0 _ l37_0 rfl
          have l38_1 : en_ld l38 1 = some (.inl x) := ml38 1 _ l37_1 rfl
          have l38_4 : en_ld l38 4 = some (.inl 4294967295) := ml38 4 _ l37_4 rfl
          have l38_2 : en_ld l38 2 = some (.inl k) := ml38 2 _ hl37 rfl
          refine ex_go (S := (27, l38, [], t135, n, 0)) rfl (fun _ => rfl) rfl ?_
          exact ih (k + 1) _ _ (by first | decide | omega) g135 (fun c i h => (e135 c i (by first | decide | omega)).trans (e0 c i (by first | decide | omega))) y9 l38_0 l38_1 (by rw [wrn_k hcn e8]; exact l38_2) hl38
        · have := e8
          refine ex_go (S := (83, l36, [.inl 4294967295, .inl (wrn w L δ σ k)], t135, n, 0)) rfl (fun _ => rfl) rfl ?_
          refine gx_2mt (c := .ne) rfl (by first | decide | omega) rfl rfl ?_
          refine gx_incS (i := 3) (a := k) (x := 1) rfl (fun _ => rfl) l36_3 (by first | decide | omega) rfl (fun l39 hl39 ml39 => ?_)
          have l39_0 : en_ld l39 0 = some (gx_r 0) := ml39 0 _ l36_0 rfl
          have l39_1 : en_ld l39 1 = some (.inl x) := ml39 1 _ l36_1 rfl
          have l39_2 : en_ld l39 2 = some (.inl (wrn w L δ σ k)) := ml39 2 _ l36_2 rfl
          have l39_4 : en_ld l39 4 = some (.inl 4294967295) := ml39 4 _ hl36 rfl
          refine ex_go (S := (27, l39, [], t135, n, 0)) rfl (fun _ => rfl) rfl ?_
          exact ih (k + 1) _ _ (by first | decide | omega) g135 (fun c i h => (e135 c i (by first | decide | omega)).trans (e0 c i (by first | decide | omega))) y9 l39_0 l39_1 (by rw [wrn_s (Or.inr (by first | decide | omega))]; exact l39_2) hl39
    · rw [hk0]
      by_cases hm : mayM w (sqn w L δ σ k) (δ k).2.1
      · show en_ex _ _ _ _ (70, cl, [.inl ((δ k).2.2), .inl ((δ k).2.1), .inl 3, gx_r 15, gx_r 0], t0, n, 0) _
        obtain ⟨_, r140, y140, t140, rfl, g140, e140, a140, b140⟩ := sc_act3_15_191 d n (σ := sqn w L δ σ k) (c := (δ k).2.1) (to := (δ k).2.2) g0 (CW_keep hC (fun c i h => e0 c i (by first | decide | omega))) hw hjk.1 hS k9 hc0
        obtain ⟨rfl, y1⟩ := a140 hm
        have hcn : dlc w (sqn w L δ σ k) (δ k) := (dlc_3 hk0).mpr hm
        have y9 : SC t140 15 (w 0 2) (w 0 4) (sqn w L δ σ (k + 1)) := by
          show SC t140 15 (w 0 2) (w 0 4) (dls w L (sqn w L δ σ k) (δ k))
          rw [dls_3 hk0 hm]
          exact y1
        refine gx_callo (a := 0) rfl rfl g0 rfl rfl rfl r140 rfl ?_
        show en_ex _ _ _ _ (73, cl, [.inl 0], t140, n, 0) _
        refine gx_sto (i := 4) (d := 0) rfl (fun _ => rfl) rfl rfl (fun l41 hl41 ml41 => ?_)
        have l41_0 : en_ld l41 0 = some (gx_r 0) := ml41 0 _ l0 rfl
        have l41_1 : en_ld l41 1 = some (.inl x) := ml41 1 _ l1 rfl
        have l41_2 : en_ld l41 2 = some (.inl (wrn w L δ σ k)) := ml41 2 _ l2 rfl
        have l41_3 : en_ld l41 3 = some (.inl k) := ml41 3 _ l3 rfl
        refine gx_ld (i := 4) (d := 0) (v := .inl 0) rfl (fun _ => rfl) hl41 rfl rfl ?_
        refine ex_go (S := (78, l41, [.inl 4294967295, .inl 0], t140, n, 0)) rfl (fun _ => rfl) rfl ?_
        refine ex_go (S := (88, l41, [], t140, n, 0)) rfl (fun _ => rfl) rfl ?_
        refine gx_incS (i := 3) (a := k) (x := 1) rfl (fun _ => rfl) l41_3 (by first | decide | omega) rfl (fun l42 hl42 ml42 => ?_)
        have l42_0 : en_ld l42 0 = some (gx_r 0) := ml42 0 _ l41_0 rfl
        have l42_1 : en_ld l42 1 = some (.inl x) := ml42 1 _ l41_1 rfl
        have l42_2 : en_ld l42 2 = some (.inl (wrn w L δ σ k)) := ml42 2 _ l41_2 rfl
        have l42_4 : en_ld l42 4 = some (.inl 0) := ml42 4 _ hl41 rfl
        refine ex_go (S := (27, l42, [], t140, n, 0)) rfl (fun _ => rfl) rfl ?_
        exact ih (k + 1) _ _ (by first | decide | omega) g140 (fun c i h => (e140 c i (by first | decide | omega)).trans (e0 c i (by first | decide | omega))) y9 l42_0 l42_1 (by rw [wrn_s (Or.inl hcn)]; exact l42_2) hl42
      · show en_ex _ _ _ _ (70, cl, [.inl ((δ k).2.2), .inl ((δ k).2.1), .inl 3, gx_r 15, gx_r 0], t0, n, 0) _
        obtain ⟨_, r143, y143, t143, rfl, g143, e143, a143, b143⟩ := sc_act3_15_191 d n (σ := sqn w L δ σ k) (c := (δ k).2.1) (to := (δ k).2.2) g0 (CW_keep hC (fun c i h => e0 c i (by first | decide | omega))) hw hjk.1 hS k9 hc0
        obtain ⟨rfl, e9⟩ := b143 hm
        have hcn : ¬ dlc w (sqn w L δ σ k) (δ k) := fun q9 => hm ((dlc_3 hk0).mp q9)
        have y9 : SC t143 15 (w 0 2) (w 0 4) (sqn w L δ σ (k + 1)) := by
          show SC t143 15 (w 0 2) (w 0 4) (dls w L (sqn w L δ σ k) (δ k))
          rw [dls_n hcn, e9]
          exact hS
        refine gx_callo (a := 0) rfl rfl g0 rfl rfl rfl r143 rfl ?_
        show en_ex _ _ _ _ (73, cl, [.inl 4294967295], t143, n, 0) _
        refine gx_sto (i := 4) (d := 0) rfl (fun _ => rfl) rfl rfl (fun l44 hl44 ml44 => ?_)
        have l44_0 : en_ld l44 0 = some (gx_r 0) := ml44 0 _ l0 rfl
        have l44_1 : en_ld l44 1 = some (.inl x) := ml44 1 _ l1 rfl
        have l44_2 : en_ld l44 2 = some (.inl (wrn w L δ σ k)) := ml44 2 _ l2 rfl
        have l44_3 : en_ld l44 3 = some (.inl k) := ml44 3 _ l3 rfl
        refine gx_ld (i := 4) (d := 0) (v := .inl 4294967295) rfl (fun _ => rfl) hl44 rfl rfl ?_
        refine ex_go (S := (78, l44, [.inl 4294967295, .inl 4294967295], t143, n, 0)) rfl (fun _ => rfl) rfl ?_
        refine ex_go (S := (81, l44, [], t143, n, 0)) rfl (fun _ => rfl) rfl ?_
        refine gx_ld (i := 2) (d := 0) (v := .inl (wrn w L δ σ k)) rfl (fun _ => rfl) l44_2 rfl rfl ?_
        rcases wrn_bd (w := w) (L := L) (δ := δ) (σ := σ) k with e8 | e8
        · rw [e8]
          show en_ex _ _ _ _ (82, l44, [.inl 4294967295], t143, n, 0) _
          refine ex_go (S := (83, l44, [.inl 4294967295, .inl 4294967295], t143, n, 0)) rfl (fun _ => rfl) rfl ?_
          refine ex_go (S := (86, l44, [], t143, n, 0)) rfl (fun _ => rfl) rfl ?_
          refine gx_ld (i := 3) (d := 0) (v := .inl k) rfl (fun _ => rfl) l44_3 rfl rfl ?_
          refine gx_sto (i := 2) (d := 0) rfl (fun _ => rfl) rfl rfl (fun l45 hl45 ml45 => ?_)
          have l45_0 : en_ld l45 0 = some (gx_r 0) := ml45 0 _ l44_0 rfl
          have l45_1 : en_ld l45 1 = some (.inl x) := ml45 1 _ l44_1 rfl
          have l45_3 : en_ld l45 3 = some (.inl k) := ml45 3 _ l44_3 rfl
          have l45_4 : en_ld l45 4 = some (.inl 4294967295) := ml45 4 _ hl44 rfl
          refine gx_incS (i := 3) (a := k) (x := 1) rfl (fun _ => rfl) l45_3 (by first | decide | omega) rfl (fun l46 hl46 ml46 => ?_)
          have l46_0 : en_ld l46 0 = some (gx_r 0) := ml46 0 _ l45_0 rfl
          have l46_1 : en_ld l46 1 = some (.inl x) := ml46 1 _ l45_1 rfl
          have l46_4 : en_ld l46 4 = some (.inl 4294967295) := ml46 4 _ l45_4 rfl
          have l46_2 : en_ld l46 2 = some (.inl k) := ml46 2 _ hl45 rfl
          refine ex_go (S := (27, l46, [], t143, n, 0)) rfl (fun _ => rfl) rfl ?_
          exact ih (k + 1) _ _ (by first | decide | omega) g143 (fun c i h => (e143 c i (by first | decide | omega)).trans (e0 c i (by first | decide | omega))) y9 l46_0 l46_1 (by rw [wrn_k hcn e8]; exact l46_2) hl46
        · have := e8
          refine ex_go (S := (83, l44, [.inl 4294967295, .inl (wrn w L δ σ k)], t143, n, 0)) rfl (fun _ => rfl) rfl ?_
          refine gx_2mt (c := .ne) rfl (by first | decide | omega) rfl rfl ?_
          refine gx_incS (i := 3) (a := k) (x := 1) rfl (fun _ => rfl) l44_3 (by first | decide | omega) rfl (fun l47 hl47 ml47 => ?_)
          have l47_0 : en_ld l47 0 = some (gx_r 0) := ml47 0 _ l44_0 rfl
          have l47_1 : en_ld l47 1 = some (.inl x) := ml47 1 _ l44_1 rfl
          have l47_2 : en_ld l47 2 = some (.inl (wrn w L δ σ k)) := ml47 2 _ l44_2 rfl
          have l47_4 : en_ld l47 4 = some (.inl 4294967295) := ml47 4 _ hl44 rfl
          refine ex_go (S := (27, l47, [], t143, n, 0)) rfl (fun _ => rfl) rfl ?_
          exact ih (k + 1) _ _ (by first | decide | omega) g143 (fun c i h => (e143 c i (by first | decide | omega)).trans (e0 c i (by first | decide | omega))) y9 l47_0 l47_1 (by rw [wrn_s (Or.inr (by first | decide | omega))]; exact l47_2) hl47
theorem sc_judged191_329 (d n : Nat) {t0 : en_H} {w : Nat → Nat → Nat} {L : List Nat} {σ : Nat → Nat} {δ : Nat → Nat × Nat × Nat} {nl x : Nat} (g0 : ai_HG ah_G t0) (hC : CW t0 191 w L) (hw : WS w) (hX : CX t0 191 w) (k10 : ai_hv t0 0 10 = some (gx_r 191)) (k12 : ai_hv t0 0 12 = some (gx_r 329)) (kn : ai_hv t0 329 5 = some (.inl nl)) (hn : nl ≤ 24) (hr : ∀ k, k < nl → ai_hv t0 331 k = some (.inl (δ k).1) ∧ ai_hv t0 332 k = some (.inl (δ k).2.1) ∧ ai_hv t0 333 k = some (.inl (δ k).2.2)) (hd : ∀ k, k < nl → dok w (δ k)) (hj : jbd σ 0) (z0 : σ 0 = 0) (z1 : ∀ i, i < w 0 2 → σ (1 + i) = w 6 i) (z7 : ∀ c, c < w 0 4 → σ (7 + c) = w 4 c) (z9 : ∀ j, 9 ≤ j → σ j = 0) (hx : x < 4294967296) : ∃ r, en_u (d + 6) 52 [gx_r 0, .inl x] t0 n = some r ∧ ∃ v t', r = (some (.inl v), t', n, 0) ∧ ai_HG ah_G t' ∧ (∀ c i, ¬ (c = 231 ∨ (15 ≤ c ∧ c ≤ 21)) → ai_hv t' c i = ai_hv t0 c i) ∧ ((x ≤ 2 → v = jan w L δ σ nl x) ∧ (¬ x ≤ 2 → v = 4294967294)) := by
  have hT := hw.1.2.2.1
  have hK := hw.1.2.2.2.2.1
  refine en_u_ex (d := d + 5) rfl ?_
  show en_ex _ _ _ _ (0, [(0, gx_r 0), (1, .inl x)], [], t0, n, 0) _
  refine ex_go (S := (1, [(0, gx_r 0), (1, .inl x)], [.inl x], t0, n, 0)) rfl (fun _ => rfl) rfl ?_
  refine ex_go (S := (2, [(0, gx_r 0), (1, .inl x)], [.inl 0, .inl x], t0, n, 0)) rfl (fun _ => rfl) rfl ?_
  refine ex_go (S := (3, [(0, gx_r 0), (1, .inl x)], [.inl 2, .inl 0, .inl x], t0, n, 0)) rfl (fun _ => rfl) rfl ?_
  obtain ⟨_, r21, b22, rfl, b22b, q23⟩ := pz_isWithin (d + 4) n (t0 := t0) (x := x) (lo := 0) (hi := 2) (by first | decide | omega) (by first | decide | omega) (by first | decide | omega)
  refine ex_stat rfl rfl rfl rfl rfl r21 (Nat.le_refl _) rfl ?_
  show en_ex _ _ _ _ (6, [(0, gx_r 0), (1, .inl x)], [.inl b22], t0, n, 0) _
  by_cases hc24 : b22 ≠ 0
  · refine gx_1t (c := .ne) rfl (by first | decide | omega) hc24 rfl ?_
    refine ex_go (S := (13, [(0, gx_r 0), (1, .inl x)], [gx_r 0], t0, n, 0)) rfl (fun _ => rfl) rfl ?_
    refine gxo_ref (a := 0) (c := 15) rfl g0 rfl rfl rfl rfl rfl ?_
    refine ex_go (S := (17, [(0, gx_r 0), (1, .inl x)], [gx_r 0, gx_r 15], t0, n, 0)) rfl (fun _ => rfl) rfl ?_
    refine gxo_get (a := 0) rfl g0 rfl rfl k10 rfl ?_
    obtain ⟨_, r125, t125, rfl, g125, e125, b0, b1, b2⟩ := pc_begin15_191 (d + 3) n (T := w 0 2) (P := w 6) (K := w 0 4) (B := w 4) g0 hT hC.1.2.2.2.1 (fun i hi => (hC.2.2.2.1 i hi).2) (fun i hi => (hw.2.2.1 i hi).2) hK hC.1.2.2.2.2.2 (fun c hc => (hC.2.2.1 c hc).2.2) (fun c hc => (hw.2.1 c hc).2.2)
    have hS9 : SC t125 15 (w 0 2) (w 0 4) σ := ⟨by rw [z0]; exact b0, fun i hi => by rw [z1 i hi]; exact b1 i hi, fun c hc => by
      obtain ⟨y1, y2, y3, y4, -⟩ := b2 c hc
      rw [z7 c hc, z9 (9 + c) (by first | decide | omega), z9 (11 + c) (by first | decide | omega), z9 (15 + c) (by first | decide | omega)]
      exact ⟨y1, y2, y3, y4, fun z => absurd z (by decide)⟩⟩
    refine gx_callo (a := 15) rfl rfl g0 rfl rfl rfl r125 rfl ?_
    have k26 : ai_hv t125 0 10 = some (gx_r 191) := (e125 0 10 (by first | decide | omega)).trans k10
    show en_ex _ _ _ _ (23, [(0, gx_r 0), (1, .inl x)], [], t125, n, 0) _
    refine ex_go (S := (24, [(0, gx_r 0), (1, .inl x)], [.inl 4294967295], t125, n, 0)) rfl (fun _ => rfl) rfl ?_
    refine ex_go (S := (25, [(2, .inl 4294967295), (0, gx_r 0), (1, .inl x)], [], t125, n, 0)) rfl (fun _ => rfl) rfl ?_
    refine ex_go (S := (26, [(2, .inl 4294967295), (0, gx_r 0), (1, .inl x)], [.inl 0], t125, n, 0)) rfl (fun _ => rfl) rfl ?_
    refine ex_go (S := (27, [(3, .inl 0), (2, .inl 4294967295), (0, gx_r 0), (1, .inl x)], [], t125, n, 0)) rfl (fun _ => rfl) rfl ?_
    refine jc_l191_329 d n (tb := t125) (σ := σ) (δ := δ) (nl := nl) (x := x) (CW_keep hC (fun c i h => e125 c i (by first | decide | omega))) hw (CX_keep hX (fun c i h => e125 c i (by first | decide | omega))) ((e125 0 10 (by first | decide | omega)).trans k10) ((e125 0 12 (by first | decide | omega)).trans k12) ((e125 329 5 (by first | decide | omega)).trans kn) hn (fun k hk => ⟨(e125 331 k (by first | decide | omega)).trans (hr k hk).1, (e125 332 k (by first | decide | omega)).trans (hr k hk).2.1, (e125 333 k (by first | decide | omega)).trans (hr k hk).2.2⟩) hd hj (fun cl t127 g127 e127 y127 l1270 l1271 l1272 => ?_) nl 0 _ _ (by first | decide | omega) g125 (fun _ _ _ => rfl) hS9 rfl rfl rfl rfl
    have k15 := y127.1
    have hwb := wrn_bd (w := w) (L := L) (δ := δ) (σ := σ) nl
    have k9 : ai_hv t127 0 10 = some (gx_r 191) := ((e127 0 10 (by first | decide | omega)).trans (e125 0 10 (by first | decide | omega))).trans k10
    refine gx_ld (i := 1) (d := 0) (v := .inl x) rfl (fun _ => rfl) l1271 rfl rfl ?_
    by_cases hc28 : x ≠ 0
    · refine gx_1t (c := .ne) rfl (by first | decide | omega) hc28 rfl ?_
      refine gx_ld (i := 1) (d := 0) (v := .inl x) rfl (fun _ => rfl) l1271 rfl rfl ?_
      refine ex_go (S := (102, cl, [.inl 1, .inl x], t127, n, 0)) rfl (fun _ => rfl) rfl ?_
      by_cases hc29 : x ≠ 1
      · refine gx_2t (c := .ne) rfl (by first | decide | omega) (by first | decide | omega) hc29 rfl ?_
        refine gx_ld (i := 0) (d := 2) (v := gx_r 0) rfl (fun _ => rfl) l1270 rfl rfl ?_
        refine gxo_ref (a := 0) (c := 15) rfl g127 rfl rfl rfl rfl rfl ?_
        refine gx_ld (i := 0) (d := 2) (v := gx_r 0) rfl (fun _ => rfl) l1270 rfl rfl ?_
        refine gxo_get (a := 0) rfl g127 rfl rfl k9 rfl ?_
        obtain ⟨_, r9, rfl⟩ := sc_bis191 (d + 4) n (σ := sqn w L δ σ nl) (B := 30 * nl) g127 (CW_keep hC (fun c i h => (e127 c i (by first | decide | omega)).trans (e125 c i (by first | decide | omega)))) hw y127 (jbd_sqn hw hd hn hj nl (Nat.le_refl _))
        refine gx_callo (a := 15) rfl rfl g127 rfl rfl rfl r9 rfl ?_
        show en_ex _ _ _ _ (126, cl, [.inl (bsm (sqn w L δ σ nl) (w 0 4))], t127, n, 0) _
        refine ex_ret (r := (some (.inl (bsm (sqn w L δ σ nl) (w 0 4))), t127, n, 0)) rfl (fun _ => rfl) ?_
        exact ⟨_, rfl, _, _, rfl, g127, (fun c i h => (e127 c i (by first | decide | omega)).trans (e125 c i (by first | decide | omega))), (fun _ => ((if_neg (by first | decide | omega)).trans (if_neg (by first | decide | omega))).symm), (fun c9 => by omega)⟩
      · refine gx_2f (c := .ne) rfl (by first | decide | omega) (by first | decide | omega) hc29 rfl ?_
        refine gx_ld (i := 0) (d := 2) (v := gx_r 0) rfl (fun _ => rfl) l1270 rfl rfl ?_
        refine gxo_ref (a := 0) (c := 15) rfl g127 rfl rfl rfl rfl rfl ?_
        refine gxo_get (a := 15) rfl g127 rfl rfl k15 rfl ?_
        refine ex_go (S := (126, cl, [.inl (sqn w L δ σ nl 0)], t127, n, 0)) rfl (fun _ => rfl) rfl ?_
        refine ex_ret (r := (some (.inl (sqn w L δ σ nl 0)), t127, n, 0)) rfl (fun _ => rfl) ?_
        exact ⟨_, rfl, _, _, rfl, g127, (fun c i h => (e127 c i (by first | decide | omega)).trans (e125 c i (by first | decide | omega))), (fun _ => ((if_neg (by first | decide | omega)).trans (if_pos (by first | decide | omega))).symm), (fun c9 => by omega)⟩
    · refine gx_1f (c := .ne) rfl (by first | decide | omega) hc28 rfl ?_
      refine gx_ld (i := 2) (d := 0) (v := .inl (wrn w L δ σ nl)) rfl (fun _ => rfl) l1272 rfl rfl ?_
      refine ex_ret (r := (some (.inl (wrn w L δ σ nl)), t127, n, 0)) rfl (fun _ => rfl) ?_
      exact ⟨_, rfl, _, _, rfl, g127, (fun c i h => (e127 c i (by first | decide | omega)).trans (e125 c i (by first | decide | omega))), (fun _ => (if_pos (by first | decide | omega)).symm), (fun c9 => by omega)⟩
  · refine gx_1f (c := .ne) rfl (by first | decide | omega) hc24 rfl ?_
    refine ex_go (S := (11, [(0, gx_r 0), (1, .inl x)], [.inl 4294967294], t0, n, 0)) rfl (fun _ => rfl) rfl ?_
    refine ex_ret (r := (some (.inl 4294967294), t0, n, 0)) rfl (fun _ => rfl) ?_
    exact ⟨_, rfl, _, _, rfl, g0, (fun _ _ _ => rfl), (fun c9 => by omega), (fun _ => rfl)⟩
theorem jb_l257 (d n : Nat) {t0 : en_H} {w : Nat → Nat → Nat} {L : List Nat} {σ : Nat → Nat} {B : Nat} {Q : en_O → Prop} (g0 : ai_HG ah_G t0) (hC : CW t0 257 w L) (hw : WS w) (hS : SC t0 15 (w 0 2) (w 0 4) σ) (hj : jbd σ B) (hQ : Q (.inl (some (.inl (bsm σ (w 0 4))), t0, n, 0))) : ∀ j k cl, k + j = w 0 4 → en_ld cl 0 = some (gx_r 15) → en_ld cl 1 = some (gx_r 257) → en_ld cl 2 = some (.inl (bsm σ k)) → en_ld cl 3 = some (.inl k) → en_ex none (en_u d) (en_code 125) (fun _ => false) (4, cl, [], t0, n, 0) Q := by
  have hK := hw.1.2.2.2.2.1
  have k5 := hC.1.2.2.2.2.2
  obtain ⟨⟨-, ⟨h7, h8⟩, -⟩, hsum, -⟩ := hj
  intro j
  induction j with
  | zero =>
    intro k cl hk l0 l1 l2 l3
    have hk : k = w 0 4 := by omega
    rw [hk] at l2 l3
    refine gx_ld (i := 3) (d := 0) (v := .inl (w 0 4)) rfl (fun _ => rfl) l3 rfl rfl ?_
    refine gx_ld (i := 1) (d := 2) (v := gx_r 257) rfl (fun _ => rfl) l1 rfl rfl ?_
    refine gxo_ref (a := 257) (c := 272) rfl g0 rfl rfl rfl rfl rfl ?_
    refine gxo_get (a := 272) rfl g0 rfl rfl k5 rfl ?_
    refine gx_2t (c := .ge) rfl (by first | decide | omega) (by first | decide | omega) (show w 0 4 ≤ w 0 4 from by omega) rfl ?_
    refine gx_ld (i := 2) (d := 0) (v := .inl (bsm σ (w 0 4))) rfl (fun _ => rfl) l2 rfl rfl ?_
    refine ex_ret (r := (some (.inl (bsm σ (w 0 4))), t0, n, 0)) rfl (fun _ => rfl) ?_
    exact hQ
  | succ j ih =>
    intro k cl hk l0 l1 l2 l3
    have kb := (hS.2.2 k (by first | decide | omega)).1
    have hbb : bsm σ k ≤ 40000 ∧ σ (7 + k) ≤ 19998 := by
      rcases (show k = 0 ∨ k = 1 by omega) with rfl | rfl
      · exact ⟨Nat.zero_le _, h7⟩
      · exact ⟨by show 0 + σ 7 ≤ 40000; omega, h8⟩
    refine gx_ld (i := 3) (d := 0) (v := .inl k) rfl (fun _ => rfl) l3 rfl rfl ?_
    refine gx_ld (i := 1) (d := 2) (v := gx_r 257) rfl (fun _ => rfl) l1 rfl rfl ?_
    refine gxo_ref (a := 257) (c := 272) rfl g0 rfl rfl rfl rfl rfl ?_
    refine gxo_get (a := 272) rfl g0 rfl rfl k5 rfl ?_
    refine gx_2f (c := .ge) rfl (by first | decide | omega) (by first | decide | omega) (show ¬ (w 0 4 ≤ k) from by omega) rfl ?_
    refine gx_ld (i := 2) (d := 0) (v := .inl (bsm σ k)) rfl (fun _ => rfl) l2 rfl rfl ?_
    refine gx_ld (i := 0) (d := 2) (v := gx_r 15) rfl (fun _ => rfl) l0 rfl rfl ?_
    refine gxo_ref (a := 15) (c := 17) rfl g0 rfl rfl rfl rfl rfl ?_
    refine gx_ld (i := 3) (d := 0) (v := .inl k) rfl (fun _ => rfl) l3 rfl rfl ?_
    refine gx_ag (v := .inl (σ (7 + k))) (cb := fun c => Nat.beq c 0) rfl (fun _ => rfl) g0 rfl rfl kb (by first | decide | omega) rfl ?_
    refine ex_iadd rfl (by first | decide | omega) rfl ?_
    refine gx_sto (i := 2) (d := 0) rfl (fun _ => rfl) rfl rfl (fun l21 hl21 ml21 => ?_)
    have l21_0 : en_ld l21 0 = some (gx_r 15) := ml21 0 _ l0 rfl
    have l21_1 : en_ld l21 1 = some (gx_r 257) := ml21 1 _ l1 rfl
    have l21_3 : en_ld l21 3 = some (.inl k) := ml21 3 _ l3 rfl
    refine gx_incS (i := 3) (a := k) (x := 1) rfl (fun _ => rfl) l21_3 (by first | decide | omega) rfl (fun l22 hl22 ml22 => ?_)
    have l22_0 : en_ld l22 0 = some (gx_r 15) := ml22 0 _ l21_0 rfl
    have l22_1 : en_ld l22 1 = some (gx_r 257) := ml22 1 _ l21_1 rfl
    have l22_2 : en_ld l22 2 = some (.inl ((bsm σ k) + (σ (7 + k)))) := ml22 2 _ hl21 rfl
    refine ex_go (S := (4, l22, [], t0, n, 0)) rfl (fun _ => rfl) rfl ?_
    exact ih (k + 1) _ (by first | decide | omega) l22_0 l22_1 l22_2 hl22
theorem sc_bis257 (d n : Nat) {t0 : en_H} {w : Nat → Nat → Nat} {L : List Nat} {σ : Nat → Nat} {B : Nat} (g0 : ai_HG ah_G t0) (hC : CW t0 257 w L) (hw : WS w) (hS : SC t0 15 (w 0 2) (w 0 4) σ) (hj : jbd σ B) : ∃ r, en_u (d + 1) 125 [gx_r 15, gx_r 257] t0 n = some r ∧ r = (some (.inl (bsm σ (w 0 4))), t0, n, 0) := by
  refine en_u_ex rfl ?_
  show en_ex _ _ _ _ (0, [(0, gx_r 15), (1, gx_r 257)], [], t0, n, 0) _
  refine ex_go (S := (1, [(0, gx_r 15), (1, gx_r 257)], [.inl 0], t0, n, 0)) rfl (fun _ => rfl) rfl ?_
  refine ex_go (S := (2, [(2, .inl 0), (0, gx_r 15), (1, gx_r 257)], [], t0, n, 0)) rfl (fun _ => rfl) rfl ?_
  refine ex_go (S := (3, [(2, .inl 0), (0, gx_r 15), (1, gx_r 257)], [.inl 0], t0, n, 0)) rfl (fun _ => rfl) rfl ?_
  refine ex_go (S := (4, [(3, .inl 0), (2, .inl 0), (0, gx_r 15), (1, gx_r 257)], [], t0, n, 0)) rfl (fun _ => rfl) rfl ?_
  exact jb_l257 d n g0 hC hw hS hj ⟨_, rfl, rfl⟩ (w 0 4) 0 _ (by first | decide | omega) rfl rfl rfl rfl
theorem jc_l257_323 (d n : Nat) {tb : en_H} {w : Nat → Nat → Nat} {L : List Nat} {σ : Nat → Nat} {δ : Nat → Nat × Nat × Nat} {nl x : Nat} {Q : en_O → Prop} (hC : CW tb 257 w L) (hw : WS w) (hX : CX tb 257 w) (k10 : ai_hv tb 0 10 = some (gx_r 257)) (k12 : ai_hv tb 0 12 = some (gx_r 323)) (kn : ai_hv tb 323 5 = some (.inl nl)) (hn : nl ≤ 24) (hr : ∀ k, k < nl → ai_hv tb 325 k = some (.inl (δ k).1) ∧ ai_hv tb 326 k = some (.inl (δ k).2.1) ∧ ai_hv tb 327 k = some (.inl (δ k).2.2)) (hd : ∀ k, k < nl → dok w (δ k)) (hj : jbd σ 0) (hQ : ∀ cl t1, ai_HG ah_G t1 → (∀ c i, ¬ (c = 297 ∨ (15 ≤ c ∧ c ≤ 21)) → ai_hv t1 c i = ai_hv tb c i) → SC t1 15 (w 0 2) (w 0 4) (sqn w L δ σ nl) → en_ld cl 0 = some (gx_r 0) → en_ld cl 1 = some (.inl x) → en_ld cl 2 = some (.inl (wrn w L δ σ nl)) → en_ex none (en_u (d + 5)) (en_code 52) (fun _ => false) (94, cl, [], t1, n, 0) Q) : ∀ j k cl t0, k + j = nl → ai_HG ah_G t0 → (∀ c i, ¬ (c = 297 ∨ (15 ≤ c ∧ c ≤ 21)) → ai_hv t0 c i = ai_hv tb c i) → SC t0 15 (w 0 2) (w 0 4) (sqn w L δ σ k) → en_ld cl 0 = some (gx_r 0) → en_ld cl 1 = some (.inl x) → en_ld cl 2 = some (.inl (wrn w L δ σ k)) → en_ld cl 3 = some (.inl k) → en_ex none (en_u (d + 5)) (en_code 52) (fun _ => false) (27, cl, [], t0, n, 0) Q := by
  intro j
  induction j with
  | zero =>
    intro k cl t0 hk g0 e0 hS l0 l1 l2 l3
    have k9 := (e0 0 10 (by first | decide | omega)).trans k10
    have k8 := (e0 0 12 (by first | decide | omega)).trans k12
    have kn0 := (e0 323 5 (by first | decide | omega)).trans kn
    have hk : k = nl := by omega
    subst hk
    refine gx_ld (i := 3) (d := 0) (v := .inl k) rfl (fun _ => rfl) l3 rfl rfl ?_
    refine gx_ld (i := 0) (d := 2) (v := gx_r 0) rfl (fun _ => rfl) l0 rfl rfl ?_
    refine gxo_get (a := 0) rfl g0 rfl rfl k8 rfl ?_
    refine gxo_get (a := 323) rfl g0 rfl rfl kn0 rfl ?_
    refine gx_2t (c := .ge) rfl (by first | decide | omega) (by first | decide | omega) (show k ≤ k from by omega) rfl ?_
    exact hQ _ _ g0 e0 hS l0 l1 l2
  | succ j ih =>
    intro k cl t0 hk g0 e0 hS l0 l1 l2 l3
    have k9 := (e0 0 10 (by first | decide | omega)).trans k10
    have k8 := (e0 0 12 (by first | decide | omega)).trans k12
    have kn0 := (e0 323 5 (by first | decide | omega)).trans kn
    have kr1 := (e0 325 k (by first | decide | omega)).trans (hr k (by first | decide | omega)).1
    have kr2 := (e0 326 k (by first | decide | omega)).trans (hr k (by first | decide | omega)).2.1
    have kr3 := (e0 327 k (by first | decide | omega)).trans (hr k (by first | decide | omega)).2.2
    have hjk := jbd_sqn (L := L) hw hd hn hj k (by first | decide | omega)
    have hs0 := hjk.2.2
    have hK := hw.1.2.2.2.2.1
    refine gx_ld (i := 3) (d := 0) (v := .inl k) rfl (fun _ => rfl) l3 rfl rfl ?_
    refine gx_ld (i := 0) (d := 2) (v := gx_r 0) rfl (fun _ => rfl) l0 rfl rfl ?_
    refine gxo_get (a := 0) rfl g0 rfl rfl k8 rfl ?_
    refine gxo_get (a := 323) rfl g0 rfl rfl kn0 rfl ?_
    refine gx_2f (c := .ge) rfl (by first | decide | omega) (by first | decide | omega) (show ¬ (nl ≤ k) from by omega) rfl ?_
    refine gx_ld (i := 0) (d := 2) (v := gx_r 0) rfl (fun _ => rfl) l0 rfl rfl ?_
    refine gx_ld (i := 0) (d := 2) (v := gx_r 0) rfl (fun _ => rfl) l0 rfl rfl ?_
    refine gxo_ref (a := 0) (c := 15) rfl g0 rfl rfl rfl rfl rfl ?_
    refine gx_ld (i := 0) (d := 2) (v := gx_r 0) rfl (fun _ => rfl) l0 rfl rfl ?_
    refine gxo_get (a := 0) rfl g0 rfl rfl k8 rfl ?_
    refine gxo_ref (a := 323) (c := 325) rfl g0 rfl rfl rfl rfl rfl ?_
    refine gx_ld (i := 3) (d := 0) (v := .inl k) rfl (fun _ => rfl) l3 rfl rfl ?_
    refine gx_ag (v := .inl ((δ k).1)) (cb := fun c => Nat.beq c 0) rfl (fun _ => rfl) g0 rfl rfl kr1 (by first | decide | omega) rfl ?_
    refine gx_ld (i := 0) (d := 2) (v := gx_r 0) rfl (fun _ => rfl) l0 rfl rfl ?_
    refine gxo_get (a := 0) rfl g0 rfl rfl k8 rfl ?_
    refine gxo_ref (a := 323) (c := 326) rfl g0 rfl rfl rfl rfl rfl ?_
    refine gx_ld (i := 3) (d := 0) (v := .inl k) rfl (fun _ => rfl) l3 rfl rfl ?_
    refine gx_ag (v := .inl ((δ k).2.1)) (cb := fun c => Nat.beq c 0) rfl (fun _ => rfl) g0 rfl rfl kr2 (by first | decide | omega) rfl ?_
    refine gx_ld (i := 0) (d := 2) (v := gx_r 0) rfl (fun _ => rfl) l0 rfl rfl ?_
    refine gxo_get (a := 0) rfl g0 rfl rfl k8 rfl ?_
    refine gxo_ref (a := 323) (c := 327) rfl g0 rfl rfl rfl rfl rfl ?_
    refine gx_ld (i := 3) (d := 0) (v := .inl k) rfl (fun _ => rfl) l3 rfl rfl ?_
    refine gx_ag (v := .inl ((δ k).2.2)) (cb := fun c => Nat.beq c 0) rfl (fun _ => rfl) g0 rfl rfl kr3 (by first | decide | omega) rfl ?_
    rcases hd k (by first | decide | omega) with ⟨hk0, hv0⟩ | ⟨hk0, hc0, hv0⟩ | ⟨hk0, hc0, hv0⟩ | ⟨hk0, hc0⟩
    · rw [hk0]
      show en_ex _ _ _ _ (70, cl, [.inl ((δ k).2.2), .inl ((δ k).2.1), .inl 0, gx_r 15, gx_r 0], t0, n, 0) _
      obtain ⟨_, r121, t121, rfl, g121, e121, y121⟩ := sc_act0_15_257 d n (x := (δ k).2.2) (cr := (δ k).2.1) (σ := sqn w L δ σ k) g0 (CW_keep hC (fun c i h => e0 c i (by first | decide | omega))) hw hjk.1 k9 hv0 hS
      have hval : itp w L (δ k).2.2 (sqn w L δ σ k) 0 ≤ 1000 := by
        rw [itp_0 hs0 (by first | decide | omega) _ hv0]
        omega
      have hcn : dlc w (sqn w L δ σ k) (δ k) := Or.inl hk0
      have y9 : SC t121 15 (w 0 2) (w 0 4) (sqn w L δ σ (k + 1)) := by
        show SC t121 15 (w 0 2) (w 0 4) (dls w L (sqn w L δ σ k) (δ k))
        rw [dls_0 hk0]
        exact y121
      refine gx_callo (a := 0) rfl rfl g0 rfl rfl rfl r121 rfl ?_
      show en_ex _ _ _ _ (73, cl, [.inl (itp w L (δ k).2.2 (sqn w L δ σ k) 0)], t121, n, 0) _
      refine gx_sto (i := 4) (d := 0) rfl (fun _ => rfl) rfl rfl (fun l22 hl22 ml22 => ?_)
      have l22_0 : en_ld l22 0 = some (gx_r 0) := ml22 0 _ l0 rfl
      have l22_1 : en_ld l22 1 = some (.inl x) := ml22 1 _ l1 rfl
      have l22_2 : en_ld l22 2 = some (.inl (wrn w L δ σ k)) := ml22 2 _ l2 rfl
      have l22_3 : en_ld l22 3 = some (.inl k) := ml22 3 _ l3 rfl
      refine gx_ld (i := 4) (d := 0) (v := .inl (itp w L (δ k).2.2 (sqn w L δ σ k) 0)) rfl (fun _ => rfl) hl22 rfl rfl ?_
      refine ex_go (S := (78, l22, [.inl 4294967295, .inl (itp w L (δ k).2.2 (sqn w L δ σ k) 0)], t121, n, 0)) rfl (fun _ => rfl) rfl ?_
      refine gx_2mt (c := .ne) rfl (by first | decide | omega) rfl rfl ?_
      refine gx_incS (i := 3) (a := k) (x := 1) rfl (fun _ => rfl) l22_3 (by first | decide | omega) rfl (fun l23 hl23 ml23 => ?_)
      have l23_0 : en_ld l23 0 = some (gx_r 0) := ml23 0 _ l22_0 rfl
      have l23_1 : en_ld l23 1 = some (.inl x) := ml23 1 _ l22_1 rfl
      have l23_2 : en_ld l23 2 = some (.inl (wrn w L δ σ k)) := ml23 2 _ l22_2 rfl
      have l23_4 : en_ld l23 4 = some (.inl (itp w L (δ k).2.2 (sqn w L δ σ k) 0)) := ml23 4 _ hl22 rfl
      refine ex_go (S := (27, l23, [], t121, n, 0)) rfl (fun _ => rfl) rfl ?_
      exact ih (k + 1) _ _ (by first | decide | omega) g121 (fun c i h => (e121 c i (by first | decide | omega)).trans (e0 c i (by first | decide | omega))) y9 l23_0 l23_1 (by rw [wrn_s (Or.inl hcn)]; exact l23_2) hl23
    · rw [hk0]
      by_cases hm : mayH w (sqn w L δ σ k) (δ k).2.1 (δ k).2.2
      · show en_ex _ _ _ _ (70, cl, [.inl ((δ k).2.2), .inl ((δ k).2.1), .inl 1, gx_r 15, gx_r 0], t0, n, 0) _
        obtain ⟨_, r124, y124, t124, rfl, g124, e124, a124, b124⟩ := sc_act1_15_257 d n (σ := sqn w L δ σ k) (c := (δ k).2.1) (to := (δ k).2.2) g0 (CW_keep hC (fun c i h => e0 c i (by first | decide | omega))) hw hjk.1 hS k9 (CX_keep hX (fun c i h => e0 c i (by first | decide | omega))) (by first | decide | omega) hv0 hc0
        obtain ⟨rfl, y1⟩ := a124 hm
        have hcn : dlc w (sqn w L δ σ k) (δ k) := (dlc_1 hk0).mpr hm
        have y9 : SC t124 15 (w 0 2) (w 0 4) (sqn w L δ σ (k + 1)) := by
          show SC t124 15 (w 0 2) (w 0 4) (dls w L (sqn w L δ σ k) (δ k))
          rw [dls_1 hk0 hm]
          exact y1
        refine gx_callo (a := 0) rfl rfl g0 rfl rfl rfl r124 rfl ?_
        show en_ex _ _ _ _ (73, cl, [.inl 0], t124, n, 0) _
        refine gx_sto (i := 4) (d := 0) rfl (fun _ => rfl) rfl rfl (fun l25 hl25 ml25 => ?_)
        have l25_0 : en_ld l25 0 = some (gx_r 0) := ml25 0 _ l0 rfl
        have l25_1 : en_ld l25 1 = some (.inl x) := ml25 1 _ l1 rfl
        have l25_2 : en_ld l25 2 = some (.inl (wrn w L δ σ k)) := ml25 2 _ l2 rfl
        have l25_3 : en_ld l25 3 = some (.inl k) := ml25 3 _ l3 rfl
        refine gx_ld (i := 4) (d := 0) (v := .inl 0) rfl (fun _ => rfl) hl25 rfl rfl ?_
        refine ex_go (S := (78, l25, [.inl 4294967295, .inl 0], t124, n, 0)) rfl (fun _ => rfl) rfl ?_
        refine ex_go (S := (88, l25, [], t124, n, 0)) rfl (fun _ => rfl) rfl ?_
        refine gx_incS (i := 3) (a := k) (x := 1) rfl (fun _ => rfl) l25_3 (by first | decide | omega) rfl (fun l26 hl26 ml26 => ?_)
        have l26_0 : en_ld l26 0 = some (gx_r 0) := ml26 0 _ l25_0 rfl
        have l26_1 : en_ld l26 1 = some (.inl x) := ml26 1 _ l25_1 rfl
        have l26_2 : en_ld l26 2 = some (.inl (wrn w L δ σ k)) := ml26 2 _ l25_2 rfl
        have l26_4 : en_ld l26 4 = some (.inl 0) := ml26 4 _ hl25 rfl
        refine ex_go (S := (27, l26, [], t124, n, 0)) rfl (fun _ => rfl) rfl ?_
        exact ih (k + 1) _ _ (by first | decide | omega) g124 (fun c i h => (e124 c i (by first | decide | omega)).trans (e0 c i (by first | decide | omega))) y9 l26_0 l26_1 (by rw [wrn_s (Or.inl hcn)]; exact l26_2) hl26
      · show en_ex _ _ _ _ (70, cl, [.inl ((δ k).2.2), .inl ((δ k).2.1), .inl 1, gx_r 15, gx_r 0], t0, n, 0) _
        obtain ⟨_, r127, y127, t127, rfl, g127, e127, a127, b127⟩ := sc_act1_15_257 d n (σ := sqn w L δ σ k) (c := (δ k).2.1) (to := (δ k).2.2) g0 (CW_keep hC (fun c i h => e0 c i (by first | decide | omega))) hw hjk.1 hS k9 (CX_keep hX (fun c i h => e0 c i (by first | decide | omega))) (by first | decide | omega) hv0 hc0
        obtain ⟨rfl, e9⟩ := b127 hm
        have hcn : ¬ dlc w (sqn w L δ σ k) (δ k) := fun q9 => hm ((dlc_1 hk0).mp q9)
        have y9 : SC t127 15 (w 0 2) (w 0 4) (sqn w L δ σ (k + 1)) := by
          show SC t127 15 (w 0 2) (w 0 4) (dls w L (sqn w L δ σ k) (δ k))
          rw [dls_n hcn, e9]
          exact hS
        refine gx_callo (a := 0) rfl rfl g0 rfl rfl rfl r127 rfl ?_
        show en_ex _ _ _ _ (73, cl, [.inl 4294967295], t127, n, 0) _
        refine gx_sto (i := 4) (d := 0) rfl (fun _ => rfl) rfl rfl (fun l28 hl28 ml28 => ?_)
        have l28_0 : en_ld l28 0 = some (gx_r 0) := ml28 0 _ l0 rfl
        have l28_1 : en_ld l28 1 = some (.inl x) := ml28 1 _ l1 rfl
        have l28_2 : en_ld l28 2 = some (.inl (wrn w L δ σ k)) := ml28 2 _ l2 rfl
        have l28_3 : en_ld l28 3 = some (.inl k) := ml28 3 _ l3 rfl
        refine gx_ld (i := 4) (d := 0) (v := .inl 4294967295) rfl (fun _ => rfl) hl28 rfl rfl ?_
        refine ex_go (S := (78, l28, [.inl 4294967295, .inl 4294967295], t127, n, 0)) rfl (fun _ => rfl) rfl ?_
        refine ex_go (S := (81, l28, [], t127, n, 0)) rfl (fun _ => rfl) rfl ?_
        refine gx_ld (i := 2) (d := 0) (v := .inl (wrn w L δ σ k)) rfl (fun _ => rfl) l28_2 rfl rfl ?_
        rcases wrn_bd (w := w) (L := L) (δ := δ) (σ := σ) k with e8 | e8
        · rw [e8]
          show en_ex _ _ _ _ (82, l28, [.inl 4294967295], t127, n, 0) _
          refine ex_go (S := (83, l28, [.inl 4294967295, .inl 4294967295], t127, n, 0)) rfl (fun _ => rfl) rfl ?_
          refine ex_go (S := (86, l28, [], t127, n, 0)) rfl (fun _ => rfl) rfl ?_
          refine gx_ld (i := 3) (d := 0) (v := .inl k) rfl (fun _ => rfl) l28_3 rfl rfl ?_
          refine gx_sto (i := 2) (d := 0) rfl (fun _ => rfl) rfl rfl (fun l29 hl29 ml29 => ?_)
          have l29_0 : en_ld l29 0 = some (gx_r 0) := ml29 0 _ l28_0 rfl
          have l29_1 : en_ld l29 1 = some (.inl x) := ml29 1 _ l28_1 rfl
          have l29_3 : en_ld l29 3 = some (.inl k) := ml29 3 _ l28_3 rfl
          have l29_4 : en_ld l29 4 = some (.inl 4294967295) := ml29 4 _ hl28 rfl
          refine gx_incS (i := 3) (a := k) (x := 1) rfl (fun _ => rfl) l29_3 (by first | decide | omega) rfl (fun l30 hl30 ml30 => ?_)
          have l30_0 : en_ld l30 0 = some (gx_r 0) := ml30 0 _ l29_0 rfl
          have l30_1 : en_ld l30 1 = some (.inl x) := ml30 1 _ l29_1 rfl
          have l30_4 : en_ld l30 4 = some (.inl 4294967295) := ml30 4 _ l29_4 rfl
          have l30_2 : en_ld l30 2 = some (.inl k) := ml30 2 _ hl29 rfl
          refine ex_go (S := (27, l30, [], t127, n, 0)) rfl (fun _ => rfl) rfl ?_
          exact ih (k + 1) _ _ (by first | decide | omega) g127 (fun c i h => (e127 c i (by first | decide | omega)).trans (e0 c i (by first | decide | omega))) y9 l30_0 l30_1 (by rw [wrn_k hcn e8]; exact l30_2) hl30
        · have := e8
          refine ex_go (S := (83, l28, [.inl 4294967295, .inl (wrn w L δ σ k)], t127, n, 0)) rfl (fun _ => rfl) rfl ?_
          refine gx_2mt (c := .ne) rfl (by first | decide | omega) rfl rfl ?_
          refine gx_incS (i := 3) (a := k) (x := 1) rfl (fun _ => rfl) l28_3 (by first | decide | omega) rfl (fun l31 hl31 ml31 => ?_)
          have l31_0 : en_ld l31 0 = some (gx_r 0) := ml31 0 _ l28_0 rfl
          have l31_1 : en_ld l31 1 = some (.inl x) := ml31 1 _ l28_1 rfl
          have l31_2 : en_ld l31 2 = some (.inl (wrn w L δ σ k)) := ml31 2 _ l28_2 rfl
          have l31_4 : en_ld l31 4 = some (.inl 4294967295) := ml31 4 _ hl28 rfl
          refine ex_go (S := (27, l31, [], t127, n, 0)) rfl (fun _ => rfl) rfl ?_
          exact ih (k + 1) _ _ (by first | decide | omega) g127 (fun c i h => (e127 c i (by first | decide | omega)).trans (e0 c i (by first | decide | omega))) y9 l31_0 l31_1 (by rw [wrn_s (Or.inr (by first | decide | omega))]; exact l31_2) hl31
    · rw [hk0]
      by_cases hm : mayL w (sqn w L δ σ k) (δ k).2.1
      · show en_ex _ _ _ _ (70, cl, [.inl ((δ k).2.2), .inl ((δ k).2.1), .inl 2, gx_r 15, gx_r 0], t0, n, 0) _
        obtain ⟨_, r132, y132, t132, rfl, g132, e132, a132, b132⟩ := sc_act2_15_257 d n (σ := sqn w L δ σ k) (c := (δ k).2.1) (v := (δ k).2.2) g0 (CW_keep hC (fun c i h => e0 c i (by first | decide | omega))) hw hjk.1 hS k9 hjk.2.1 hv0 hc0
        obtain ⟨rfl, y1⟩ := a132 hm
        have hcn : dlc w (sqn w L δ σ k) (δ k) := (dlc_2 hk0).mpr hm
        have y9 : SC t132 15 (w 0 2) (w 0 4) (sqn w L δ σ (k + 1)) := by
          show SC t132 15 (w 0 2) (w 0 4) (dls w L (sqn w L δ σ k) (δ k))
          rw [dls_2 hk0 hm]
          exact y1
        have hlv : lnv (sqn w L δ σ k) (δ k).2.1 (δ k).2.2 ≤ 999 := Nat.le_trans (Nat.min_le_left _ _) hv0
        refine gx_callo (a := 0) rfl rfl g0 rfl rfl rfl r132 rfl ?_
        show en_ex _ _ _ _ (73, cl, [.inl (lnv (sqn w L δ σ k) (δ k).2.1 (δ k).2.2)], t132, n, 0) _
        refine gx_sto (i := 4) (d := 0) rfl (fun _ => rfl) rfl rfl (fun l33 hl33 ml33 => ?_)
        have l33_0 : en_ld l33 0 = some (gx_r 0) := ml33 0 _ l0 rfl
        have l33_1 : en_ld l33 1 = some (.inl x) := ml33 1 _ l1 rfl
        have l33_2 : en_ld l33 2 = some (.inl (wrn w L δ σ k)) := ml33 2 _ l2 rfl
        have l33_3 : en_ld l33 3 = some (.inl k) := ml33 3 _ l3 rfl
        refine gx_ld (i := 4) (d := 0) (v := .inl (lnv (sqn w L δ σ k) (δ k).2.1 (δ k).2.2)) rfl (fun _ => rfl) hl33 rfl rfl ?_
        refine ex_go (S := (78, l33, [.inl 4294967295, .inl (lnv (sqn w L δ σ k) (δ k).2.1 (δ k).2.2)], t132, n, 0)) rfl (fun _ => rfl) rfl ?_
        refine gx_2mt (c := .ne) rfl (by first | decide | omega) rfl rfl ?_
        refine gx_incS (i := 3) (a := k) (x := 1) rfl (fun _ => rfl) l33_3 (by first | decide | omega) rfl (fun l34 hl34 ml34 => ?_)
        have l34_0 : en_ld l34 0 = some (gx_r 0) := ml34 0 _ l33_0 rfl
        have l34_1 : en_ld l34 1 = some (.inl x) := ml34 1 _ l33_1 rfl
        have l34_2 : en_ld l34 2 = some (.inl (wrn w L δ σ k)) := ml34 2 _ l33_2 rfl
        have l34_4 : en_ld l34 4 = some (.inl (lnv (sqn w L δ σ k) (δ k).2.1 (δ k).2.2)) := ml34 4 _ hl33 rfl
        refine ex_go (S := (27, l34, [], t132, n, 0)) rfl (fun _ => rfl) rfl ?_
        exact ih (k + 1) _ _ (by first | decide | omega) g132 (fun c i h => (e132 c i (by first | decide | omega)).trans (e0 c i (by first | decide | omega))) y9 l34_0 l34_1 (by rw [wrn_s (Or.inl hcn)]; exact l34_2) hl34
      · show en_ex _ _ _ _ (70, cl, [.inl ((δ k).2.2), .inl ((δ k).2.1), .inl 2, gx_r 15, gx_r 0], t0, n, 0) _
        obtain ⟨_, r135, y135, t135, rfl, g135, e135, a135, b135⟩ := sc_act2_15_257 d n (σ := sqn w L δ σ k) (c := (δ k).2.1) (v := (δ k).2.2) g0 (CW_keep hC (fun c i h => e0 c i (by first | decide | omega))) hw hjk.1 hS k9 hjk.2.1 hv0 hc0
        obtain ⟨rfl, e9⟩ := b135 hm
        have hcn : ¬ dlc w (sqn w L δ σ k) (δ k) := fun q9 => hm ((dlc_2 hk0).mp q9)
        have y9 : SC t135 15 (w 0 2) (w 0 4) (sqn w L δ σ (k + 1)) := by
          show SC t135 15 (w 0 2) (w 0 4) (dls w L (sqn w L δ σ k) (δ k))
          rw [dls_n hcn, e9]
          exact hS
        refine gx_callo (a := 0) rfl rfl g0 rfl rfl rfl r135 rfl ?_
        show en_ex _ _ _ _ (73, cl, [.inl 4294967295], t135, n, 0) _
        refine gx_sto (i := 4) (d := 0) rfl (fun _ => rfl) rfl rfl (fun l36 hl36 ml36 => ?_)
        have l36_0 : en_ld l36 0 = some (gx_r 0) := ml36 0 _ l0 rfl
        have l36_1 : en_ld l36 1 = some (.inl x) := ml36 1 _ l1 rfl
        have l36_2 : en_ld l36 2 = some (.inl (wrn w L δ σ k)) := ml36 2 _ l2 rfl
        have l36_3 : en_ld l36 3 = some (.inl k) := ml36 3 _ l3 rfl
        refine gx_ld (i := 4) (d := 0) (v := .inl 4294967295) rfl (fun _ => rfl) hl36 rfl rfl ?_
        refine ex_go (S := (78, l36, [.inl 4294967295, .inl 4294967295], t135, n, 0)) rfl (fun _ => rfl) rfl ?_
        refine ex_go (S := (81, l36, [], t135, n, 0)) rfl (fun _ => rfl) rfl ?_
        refine gx_ld (i := 2) (d := 0) (v := .inl (wrn w L δ σ k)) rfl (fun _ => rfl) l36_2 rfl rfl ?_
        rcases wrn_bd (w := w) (L := L) (δ := δ) (σ := σ) k with e8 | e8
        · rw [e8]
          show en_ex _ _ _ _ (82, l36, [.inl 4294967295], t135, n, 0) _
          refine ex_go (S := (83, l36, [.inl 4294967295, .inl 4294967295], t135, n, 0)) rfl (fun _ => rfl) rfl ?_
          refine ex_go (S := (86, l36, [], t135, n, 0)) rfl (fun _ => rfl) rfl ?_
          refine gx_ld (i := 3) (d := 0) (v := .inl k) rfl (fun _ => rfl) l36_3 rfl rfl ?_
          refine gx_sto (i := 2) (d := 0) rfl (fun _ => rfl) rfl rfl (fun l37 hl37 ml37 => ?_)
          have l37_0 : en_ld l37 0 = some (gx_r 0) := ml37 0 _ l36_0 rfl
          have l37_1 : en_ld l37 1 = some (.inl x) := ml37 1 _ l36_1 rfl
          have l37_3 : en_ld l37 3 = some (.inl k) := ml37 3 _ l36_3 rfl
          have l37_4 : en_ld l37 4 = some (.inl 4294967295) := ml37 4 _ hl36 rfl
          refine gx_incS (i := 3) (a := k) (x := 1) rfl (fun _ => rfl) l37_3 (by first | decide | omega) rfl (fun l38 hl38 ml38 => ?_)
          have l38_0 : en_ld l38 0 = some (gx_r 0) := ml38 0 _ l37_0 rfl
          have l38_1 : en_ld l38 1 = some (.inl x) := ml38 1 _ l37_1 rfl
          have l38_4 : en_ld l38 4 = some (.inl 4294967295) := ml38 4 _ l37_4 rfl
          have l38_2 : en_ld l38 2 = some (.inl k) := ml38 2 _ hl37 rfl
          refine ex_go (S := (27, l38, [], t135, n, 0)) rfl (fun _ => rfl) rfl ?_
          exact ih (k + 1) _ _ (by first | decide | omega) g135 (fun c i h => (e135 c i (by first | decide | omega)).trans (e0 c i (by first | decide | omega))) y9 l38_0 l38_1 (by rw [wrn_k hcn e8]; exact l38_2) hl38
        · have := e8
          refine ex_go (S := (83, l36, [.inl 4294967295, .inl (wrn w L δ σ k)], t135, n, 0)) rfl (fun _ => rfl) rfl ?_
          refine gx_2mt (c := .ne) rfl (by first | decide | omega) rfl rfl ?_
          refine gx_incS (i := 3) (a := k) (x := 1) rfl (fun _ => rfl) l36_3 (by first | decide | omega) rfl (fun l39 hl39 ml39 => ?_)
          have l39_0 : en_ld l39 0 = some (gx_r 0) := ml39 0 _ l36_0 rfl
          have l39_1 : en_ld l39 1 = some (.inl x) := ml39 1 _ l36_1 rfl
          have l39_2 : en_ld l39 2 = some (.inl (wrn w L δ σ k)) := ml39 2 _ l36_2 rfl
          have l39_4 : en_ld l39 4 = some (.inl 4294967295) := ml39 4 _ hl36 rfl
          refine ex_go (S := (27, l39, [], t135, n, 0)) rfl (fun _ => rfl) rfl ?_
          exact ih (k + 1) _ _ (by first | decide | omega) g135 (fun c i h => (e135 c i (by first | decide | omega)).trans (e0 c i (by first | decide | omega))) y9 l39_0 l39_1 (by rw [wrn_s (Or.inr (by first | decide | omega))]; exact l39_2) hl39
    · rw [hk0]
      by_cases hm : mayM w (sqn w L δ σ k) (δ k).2.1
      · show en_ex _ _ _ _ (70, cl, [.inl ((δ k).2.2), .inl ((δ k).2.1), .inl 3, gx_r 15, gx_r 0], t0, n, 0) _
        obtain ⟨_, r140, y140, t140, rfl, g140, e140, a140, b140⟩ := sc_act3_15_257 d n (σ := sqn w L δ σ k) (c := (δ k).2.1) (to := (δ k).2.2) g0 (CW_keep hC (fun c i h => e0 c i (by first | decide | omega))) hw hjk.1 hS k9 hc0
        obtain ⟨rfl, y1⟩ := a140 hm
        have hcn : dlc w (sqn w L δ σ k) (δ k) := (dlc_3 hk0).mpr hm
        have y9 : SC t140 15 (w 0 2) (w 0 4) (sqn w L δ σ (k + 1)) := by
          show SC t140 15 (w 0 2) (w 0 4) (dls w L (sqn w L δ σ k) (δ k))
          rw [dls_3 hk0 hm]
          exact y1
        refine gx_callo (a := 0) rfl rfl g0 rfl rfl rfl r140 rfl ?_
        show en_ex _ _ _ _ (73, cl, [.inl 0], t140, n, 0) _
        refine gx_sto (i := 4) (d := 0) rfl (fun _ => rfl) rfl rfl (fun l41 hl41 ml41 => ?_)
        have l41_0 : en_ld l41 0 = some (gx_r 0) := ml41 0 _ l0 rfl
        have l41_1 : en_ld l41 1 = some (.inl x) := ml41 1 _ l1 rfl
        have l41_2 : en_ld l41 2 = some (.inl (wrn w L δ σ k)) := ml41 2 _ l2 rfl
        have l41_3 : en_ld l41 3 = some (.inl k) := ml41 3 _ l3 rfl
        refine gx_ld (i := 4) (d := 0) (v := .inl 0) rfl (fun _ => rfl) hl41 rfl rfl ?_
        refine ex_go (S := (78, l41, [.inl 4294967295, .inl 0], t140, n, 0)) rfl (fun _ => rfl) rfl ?_
        refine ex_go (S := (88, l41, [], t140, n, 0)) rfl (fun _ => rfl) rfl ?_
        refine gx_incS (i := 3) (a := k) (x := 1) rfl (fun _ => rfl) l41_3 (by first | decide | omega) rfl (fun l42 hl42 ml42 => ?_)
        have l42_0 : en_ld l42 0 = some (gx_r 0) := ml42 0 _ l41_0 rfl
        have l42_1 : en_ld l42 1 = some (.inl x) := ml42 1 _ l41_1 rfl
        have l42_2 : en_ld l42 2 = some (.inl (wrn w L δ σ k)) := ml42 2 _ l41_2 rfl
        have l42_4 : en_ld l42 4 = some (.inl 0) := ml42 4 _ hl41 rfl
        refine ex_go (S := (27, l42, [], t140, n, 0)) rfl (fun _ => rfl) rfl ?_
        exact ih (k + 1) _ _ (by first | decide | omega) g140 (fun c i h => (e140 c i (by first | decide | omega)).trans (e0 c i (by first | decide | omega))) y9 l42_0 l42_1 (by rw [wrn_s (Or.inl hcn)]; exact l42_2) hl42
      · show en_ex _ _ _ _ (70, cl, [.inl ((δ k).2.2), .inl ((δ k).2.1), .inl 3, gx_r 15, gx_r 0], t0, n, 0) _
        obtain ⟨_, r143, y143, t143, rfl, g143, e143, a143, b143⟩ := sc_act3_15_257 d n (σ := sqn w L δ σ k) (c := (δ k).2.1) (to := (δ k).2.2) g0 (CW_keep hC (fun c i h => e0 c i (by first | decide | omega))) hw hjk.1 hS k9 hc0
        obtain ⟨rfl, e9⟩ := b143 hm
        have hcn : ¬ dlc w (sqn w L δ σ k) (δ k) := fun q9 => hm ((dlc_3 hk0).mp q9)
        have y9 : SC t143 15 (w 0 2) (w 0 4) (sqn w L δ σ (k + 1)) := by
          show SC t143 15 (w 0 2) (w 0 4) (dls w L (sqn w L δ σ k) (δ k))
          rw [dls_n hcn, e9]
          exact hS
        refine gx_callo (a := 0) rfl rfl g0 rfl rfl rfl r143 rfl ?_
        show en_ex _ _ _ _ (73, cl, [.inl 4294967295], t143, n, 0) _
        refine gx_sto (i := 4) (d := 0) rfl (fun _ => rfl) rfl rfl (fun l44 hl44 ml44 => ?_)
        have l44_0 : en_ld l44 0 = some (gx_r 0) := ml44 0 _ l0 rfl
        have l44_1 : en_ld l44 1 = some (.inl x) := ml44 1 _ l1 rfl
        have l44_2 : en_ld l44 2 = some (.inl (wrn w L δ σ k)) := ml44 2 _ l2 rfl
        have l44_3 : en_ld l44 3 = some (.inl k) := ml44 3 _ l3 rfl
        refine gx_ld (i := 4) (d := 0) (v := .inl 4294967295) rfl (fun _ => rfl) hl44 rfl rfl ?_
        refine ex_go (S := (78, l44, [.inl 4294967295, .inl 4294967295], t143, n, 0)) rfl (fun _ => rfl) rfl ?_
        refine ex_go (S := (81, l44, [], t143, n, 0)) rfl (fun _ => rfl) rfl ?_
        refine gx_ld (i := 2) (d := 0) (v := .inl (wrn w L δ σ k)) rfl (fun _ => rfl) l44_2 rfl rfl ?_
        rcases wrn_bd (w := w) (L := L) (δ := δ) (σ := σ) k with e8 | e8
        · rw [e8]
          show en_ex _ _ _ _ (82, l44, [.inl 4294967295], t143, n, 0) _
          refine ex_go (S := (83, l44, [.inl 4294967295, .inl 4294967295], t143, n, 0)) rfl (fun _ => rfl) rfl ?_
          refine ex_go (S := (86, l44, [], t143, n, 0)) rfl (fun _ => rfl) rfl ?_
          refine gx_ld (i := 3) (d := 0) (v := .inl k) rfl (fun _ => rfl) l44_3 rfl rfl ?_
          refine gx_sto (i := 2) (d := 0) rfl (fun _ => rfl) rfl rfl (fun l45 hl45 ml45 => ?_)
          have l45_0 : en_ld l45 0 = some (gx_r 0) := ml45 0 _ l44_0 rfl
          have l45_1 : en_ld l45 1 = some (.inl x) := ml45 1 _ l44_1 rfl
          have l45_3 : en_ld l45 3 = some (.inl k) := ml45 3 _ l44_3 rfl
          have l45_4 : en_ld l45 4 = some (.inl 4294967295) := ml45 4 _ hl44 rfl
          refine gx_incS (i := 3) (a := k) (x := 1) rfl (fun _ => rfl) l45_3 (by first | decide | omega) rfl (fun l46 hl46 ml46 => ?_)
          have l46_0 : en_ld l46 0 = some (gx_r 0) := ml46 0 _ l45_0 rfl
          have l46_1 : en_ld l46 1 = some (.inl x) := ml46 1 _ l45_1 rfl
          have l46_4 : en_ld l46 4 = some (.inl 4294967295) := ml46 4 _ l45_4 rfl
          have l46_2 : en_ld l46 2 = some (.inl k) := ml46 2 _ hl45 rfl
          refine ex_go (S := (27, l46, [], t143, n, 0)) rfl (fun _ => rfl) rfl ?_
          exact ih (k + 1) _ _ (by first | decide | omega) g143 (fun c i h => (e143 c i (by first | decide | omega)).trans (e0 c i (by first | decide | omega))) y9 l46_0 l46_1 (by rw [wrn_k hcn e8]; exact l46_2) hl46
        · have := e8
          refine ex_go (S := (83, l44, [.inl 4294967295, .inl (wrn w L δ σ k)], t143, n, 0)) rfl (fun _ => rfl) rfl ?_
          refine gx_2mt (c := .ne) rfl (by first | decide | omega) rfl rfl ?_
          refine gx_incS (i := 3) (a := k) (x := 1) rfl (fun _ => rfl) l44_3 (by first | decide | omega) rfl (fun l47 hl47 ml47 => ?_)
          have l47_0 : en_ld l47 0 = some (gx_r 0) := ml47 0 _ l44_0 rfl
          have l47_1 : en_ld l47 1 = some (.inl x) := ml47 1 _ l44_1 rfl
          have l47_2 : en_ld l47 2 = some (.inl (wrn w L δ σ k)) := ml47 2 _ l44_2 rfl
          have l47_4 : en_ld l47 4 = some (.inl 4294967295) := ml47 4 _ hl44 rfl
          refine ex_go (S := (27, l47, [], t143, n, 0)) rfl (fun _ => rfl) rfl ?_
          exact ih (k + 1) _ _ (by first | decide | omega) g143 (fun c i h => (e143 c i (by first | decide | omega)).trans (e0 c i (by first | decide | omega))) y9 l47_0 l47_1 (by rw [wrn_s (Or.inr (by first | decide | omega))]; exact l47_2) hl47
theorem sc_judged257_323 (d n : Nat) {t0 : en_H} {w : Nat → Nat → Nat} {L : List Nat} {σ : Nat → Nat} {δ : Nat → Nat × Nat × Nat} {nl x : Nat} (g0 : ai_HG ah_G t0) (hC : CW t0 257 w L) (hw : WS w) (hX : CX t0 257 w) (k10 : ai_hv t0 0 10 = some (gx_r 257)) (k12 : ai_hv t0 0 12 = some (gx_r 323)) (kn : ai_hv t0 323 5 = some (.inl nl)) (hn : nl ≤ 24) (hr : ∀ k, k < nl → ai_hv t0 325 k = some (.inl (δ k).1) ∧ ai_hv t0 326 k = some (.inl (δ k).2.1) ∧ ai_hv t0 327 k = some (.inl (δ k).2.2)) (hd : ∀ k, k < nl → dok w (δ k)) (hj : jbd σ 0) (z0 : σ 0 = 0) (z1 : ∀ i, i < w 0 2 → σ (1 + i) = w 6 i) (z7 : ∀ c, c < w 0 4 → σ (7 + c) = w 4 c) (z9 : ∀ j, 9 ≤ j → σ j = 0) (hx : x < 4294967296) : ∃ r, en_u (d + 6) 52 [gx_r 0, .inl x] t0 n = some r ∧ ∃ v t', r = (some (.inl v), t', n, 0) ∧ ai_HG ah_G t' ∧ (∀ c i, ¬ (c = 297 ∨ (15 ≤ c ∧ c ≤ 21)) → ai_hv t' c i = ai_hv t0 c i) ∧ ((x ≤ 2 → v = jan w L δ σ nl x) ∧ (¬ x ≤ 2 → v = 4294967294)) := by
  have hT := hw.1.2.2.1
  have hK := hw.1.2.2.2.2.1
  refine en_u_ex (d := d + 5) rfl ?_
  show en_ex _ _ _ _ (0, [(0, gx_r 0), (1, .inl x)], [], t0, n, 0) _
  refine ex_go (S := (1, [(0, gx_r 0), (1, .inl x)], [.inl x], t0, n, 0)) rfl (fun _ => rfl) rfl ?_
  refine ex_go (S := (2, [(0, gx_r 0), (1, .inl x)], [.inl 0, .inl x], t0, n, 0)) rfl (fun _ => rfl) rfl ?_
  refine ex_go (S := (3, [(0, gx_r 0), (1, .inl x)], [.inl 2, .inl 0, .inl x], t0, n, 0)) rfl (fun _ => rfl) rfl ?_
  obtain ⟨_, r21, b22, rfl, b22b, q23⟩ := pz_isWithin (d + 4) n (t0 := t0) (x := x) (lo := 0) (hi := 2) (by first | decide | omega) (by first | decide | omega) (by first | decide | omega)
  refine ex_stat rfl rfl rfl rfl rfl r21 (Nat.le_refl _) rfl ?_
  show en_ex _ _ _ _ (6, [(0, gx_r 0), (1, .inl x)], [.inl b22], t0, n, 0) _
  by_cases hc24 : b22 ≠ 0
  · refine gx_1t (c := .ne) rfl (by first | decide | omega) hc24 rfl ?_
    refine ex_go (S := (13, [(0, gx_r 0), (1, .inl x)], [gx_r 0], t0, n, 0)) rfl (fun _ => rfl) rfl ?_
    refine gxo_ref (a := 0) (c := 15) rfl g0 rfl rfl rfl rfl rfl ?_
    refine ex_go (S := (17, [(0, gx_r 0), (1, .inl x)], [gx_r 0, gx_r 15], t0, n, 0)) rfl (fun _ => rfl) rfl ?_
    refine gxo_get (a := 0) rfl g0 rfl rfl k10 rfl ?_
    obtain ⟨_, r125, t125, rfl, g125, e125, b0, b1, b2⟩ := pc_begin15_257 (d + 3) n (T := w 0 2) (P := w 6) (K := w 0 4) (B := w 4) g0 hT hC.1.2.2.2.1 (fun i hi => (hC.2.2.2.1 i hi).2) (fun i hi => (hw.2.2.1 i hi).2) hK hC.1.2.2.2.2.2 (fun c hc => (hC.2.2.1 c hc).2.2) (fun c hc => (hw.2.1 c hc).2.2)
    have hS9 : SC t125 15 (w 0 2) (w 0 4) σ := ⟨by rw [z0]; exact b0, fun i hi => by rw [z1 i hi]; exact b1 i hi, fun c hc => by
      obtain ⟨y1, y2, y3, y4, -⟩ := b2 c hc
      rw [z7 c hc, z9 (9 + c) (by first | decide | omega), z9 (11 + c) (by first | decide | omega), z9 (15 + c) (by first | decide | omega)]
      exact ⟨y1, y2, y3, y4, fun z => absurd z (by decide)⟩⟩
    refine gx_callo (a := 15) rfl rfl g0 rfl rfl rfl r125 rfl ?_
    have k26 : ai_hv t125 0 10 = some (gx_r 257) := (e125 0 10 (by first | decide | omega)).trans k10
    show en_ex _ _ _ _ (23, [(0, gx_r 0), (1, .inl x)], [], t125, n, 0) _
    refine ex_go (S := (24, [(0, gx_r 0), (1, .inl x)], [.inl 4294967295], t125, n, 0)) rfl (fun _ => rfl) rfl ?_
    refine ex_go (S := (25, [(2, .inl 4294967295), (0, gx_r 0), (1, .inl x)], [], t125, n, 0)) rfl (fun _ => rfl) rfl ?_
    refine ex_go (S := (26, [(2, .inl 4294967295), (0, gx_r 0), (1, .inl x)], [.inl 0], t125, n, 0)) rfl (fun _ => rfl) rfl ?_
    refine ex_go (S := (27, [(3, .inl 0), (2, .inl 4294967295), (0, gx_r 0), (1, .inl x)], [], t125, n, 0)) rfl (fun _ => rfl) rfl ?_
    refine jc_l257_323 d n (tb := t125) (σ := σ) (δ := δ) (nl := nl) (x := x) (CW_keep hC (fun c i h => e125 c i (by first | decide | omega))) hw (CX_keep hX (fun c i h => e125 c i (by first | decide | omega))) ((e125 0 10 (by first | decide | omega)).trans k10) ((e125 0 12 (by first | decide | omega)).trans k12) ((e125 323 5 (by first | decide | omega)).trans kn) hn (fun k hk => ⟨(e125 325 k (by first | decide | omega)).trans (hr k hk).1, (e125 326 k (by first | decide | omega)).trans (hr k hk).2.1, (e125 327 k (by first | decide | omega)).trans (hr k hk).2.2⟩) hd hj (fun cl t127 g127 e127 y127 l1270 l1271 l1272 => ?_) nl 0 _ _ (by first | decide | omega) g125 (fun _ _ _ => rfl) hS9 rfl rfl rfl rfl
    have k15 := y127.1
    have hwb := wrn_bd (w := w) (L := L) (δ := δ) (σ := σ) nl
    have k9 : ai_hv t127 0 10 = some (gx_r 257) := ((e127 0 10 (by first | decide | omega)).trans (e125 0 10 (by first | decide | omega))).trans k10
    refine gx_ld (i := 1) (d := 0) (v := .inl x) rfl (fun _ => rfl) l1271 rfl rfl ?_
    by_cases hc28 : x ≠ 0
    · refine gx_1t (c := .ne) rfl (by first | decide | omega) hc28 rfl ?_
      refine gx_ld (i := 1) (d := 0) (v := .inl x) rfl (fun _ => rfl) l1271 rfl rfl ?_
      refine ex_go (S := (102, cl, [.inl 1, .inl x], t127, n, 0)) rfl (fun _ => rfl) rfl ?_
      by_cases hc29 : x ≠ 1
      · refine gx_2t (c := .ne) rfl (by first | decide | omega) (by first | decide | omega) hc29 rfl ?_
        refine gx_ld (i := 0) (d := 2) (v := gx_r 0) rfl (fun _ => rfl) l1270 rfl rfl ?_
        refine gxo_ref (a := 0) (c := 15) rfl g127 rfl rfl rfl rfl rfl ?_
        refine gx_ld (i := 0) (d := 2) (v := gx_r 0) rfl (fun _ => rfl) l1270 rfl rfl ?_
        refine gxo_get (a := 0) rfl g127 rfl rfl k9 rfl ?_
        obtain ⟨_, r9, rfl⟩ := sc_bis257 (d + 4) n (σ := sqn w L δ σ nl) (B := 30 * nl) g127 (CW_keep hC (fun c i h => (e127 c i (by first | decide | omega)).trans (e125 c i (by first | decide | omega)))) hw y127 (jbd_sqn hw hd hn hj nl (Nat.le_refl _))
        refine gx_callo (a := 15) rfl rfl g127 rfl rfl rfl r9 rfl ?_
        show en_ex _ _ _ _ (126, cl, [.inl (bsm (sqn w L δ σ nl) (w 0 4))], t127, n, 0) _
        refine ex_ret (r := (some (.inl (bsm (sqn w L δ σ nl) (w 0 4))), t127, n, 0)) rfl (fun _ => rfl) ?_
        exact ⟨_, rfl, _, _, rfl, g127, (fun c i h => (e127 c i (by first | decide | omega)).trans (e125 c i (by first | decide | omega))), (fun _ => ((if_neg (by first | decide | omega)).trans (if_neg (by first | decide | omega))).symm), (fun c9 => by omega)⟩
      · refine gx_2f (c := .ne) rfl (by first | decide | omega) (by first | decide | omega) hc29 rfl ?_
        refine gx_ld (i := 0) (d := 2) (v := gx_r 0) rfl (fun _ => rfl) l1270 rfl rfl ?_
        refine gxo_ref (a := 0) (c := 15) rfl g127 rfl rfl rfl rfl rfl ?_
        refine gxo_get (a := 15) rfl g127 rfl rfl k15 rfl ?_
        refine ex_go (S := (126, cl, [.inl (sqn w L δ σ nl 0)], t127, n, 0)) rfl (fun _ => rfl) rfl ?_
        refine ex_ret (r := (some (.inl (sqn w L δ σ nl 0)), t127, n, 0)) rfl (fun _ => rfl) ?_
        exact ⟨_, rfl, _, _, rfl, g127, (fun c i h => (e127 c i (by first | decide | omega)).trans (e125 c i (by first | decide | omega))), (fun _ => ((if_neg (by first | decide | omega)).trans (if_pos (by first | decide | omega))).symm), (fun c9 => by omega)⟩
    · refine gx_1f (c := .ne) rfl (by first | decide | omega) hc28 rfl ?_
      refine gx_ld (i := 2) (d := 0) (v := .inl (wrn w L δ σ nl)) rfl (fun _ => rfl) l1272 rfl rfl ?_
      refine ex_ret (r := (some (.inl (wrn w L δ σ nl)), t127, n, 0)) rfl (fun _ => rfl) ?_
      exact ⟨_, rfl, _, _, rfl, g127, (fun c i h => (e127 c i (by first | decide | omega)).trans (e125 c i (by first | decide | omega))), (fun _ => (if_pos (by first | decide | omega)).symm), (fun c9 => by omega)⟩
  · refine gx_1f (c := .ne) rfl (by first | decide | omega) hc24 rfl ?_
    refine ex_go (S := (11, [(0, gx_r 0), (1, .inl x)], [.inl 4294967294], t0, n, 0)) rfl (fun _ => rfl) rfl ?_
    refine ex_ret (r := (some (.inl 4294967294), t0, n, 0)) rfl (fun _ => rfl) ?_
    exact ⟨_, rfl, _, _, rfl, g0, (fun _ _ _ => rfl), (fun c9 => by omega), (fun _ => rfl)⟩
theorem jc_l257_329 (d n : Nat) {tb : en_H} {w : Nat → Nat → Nat} {L : List Nat} {σ : Nat → Nat} {δ : Nat → Nat × Nat × Nat} {nl x : Nat} {Q : en_O → Prop} (hC : CW tb 257 w L) (hw : WS w) (hX : CX tb 257 w) (k10 : ai_hv tb 0 10 = some (gx_r 257)) (k12 : ai_hv tb 0 12 = some (gx_r 329)) (kn : ai_hv tb 329 5 = some (.inl nl)) (hn : nl ≤ 24) (hr : ∀ k, k < nl → ai_hv tb 331 k = some (.inl (δ k).1) ∧ ai_hv tb 332 k = some (.inl (δ k).2.1) ∧ ai_hv tb 333 k = some (.inl (δ k).2.2)) (hd : ∀ k, k < nl → dok w (δ k)) (hj : jbd σ 0) (hQ : ∀ cl t1, ai_HG ah_G t1 → (∀ c i, ¬ (c = 297 ∨ (15 ≤ c ∧ c ≤ 21)) → ai_hv t1 c i = ai_hv tb c i) → SC t1 15 (w 0 2) (w 0 4) (sqn w L δ σ nl) → en_ld cl 0 = some (gx_r 0) → en_ld cl 1 = some (.inl x) → en_ld cl 2 = some (.inl (wrn w L δ σ nl)) → en_ex none (en_u (d + 5)) (en_code 52) (fun _ => false) (94, cl, [], t1, n, 0) Q) : ∀ j k cl t0, k + j = nl → ai_HG ah_G t0 → (∀ c i, ¬ (c = 297 ∨ (15 ≤ c ∧ c ≤ 21)) → ai_hv t0 c i = ai_hv tb c i) → SC t0 15 (w 0 2) (w 0 4) (sqn w L δ σ k) → en_ld cl 0 = some (gx_r 0) → en_ld cl 1 = some (.inl x) → en_ld cl 2 = some (.inl (wrn w L δ σ k)) → en_ld cl 3 = some (.inl k) → en_ex none (en_u (d + 5)) (en_code 52) (fun _ => false) (27, cl, [], t0, n, 0) Q := by
  intro j
  induction j with
  | zero =>
    intro k cl t0 hk g0 e0 hS l0 l1 l2 l3
    have k9 := (e0 0 10 (by first | decide | omega)).trans k10
    have k8 := (e0 0 12 (by first | decide | omega)).trans k12
    have kn0 := (e0 329 5 (by first | decide | omega)).trans kn
    have hk : k = nl := by omega
    subst hk
    refine gx_ld (i := 3) (d := 0) (v := .inl k) rfl (fun _ => rfl) l3 rfl rfl ?_
    refine gx_ld (i := 0) (d := 2) (v := gx_r 0) rfl (fun _ => rfl) l0 rfl rfl ?_
    refine gxo_get (a := 0) rfl g0 rfl rfl k8 rfl ?_
    refine gxo_get (a := 329) rfl g0 rfl rfl kn0 rfl ?_
    refine gx_2t (c := .ge) rfl (by first | decide | omega) (by first | decide | omega) (show k ≤ k from by omega) rfl ?_
    exact hQ _ _ g0 e0 hS l0 l1 l2
  | succ j ih =>
    intro k cl t0 hk g0 e0 hS l0 l1 l2 l3
    have k9 := (e0 0 10 (by first | decide | omega)).trans k10
    have k8 := (e0 0 12 (by first | decide | omega)).trans k12
    have kn0 := (e0 329 5 (by first | decide | omega)).trans kn
    have kr1 := (e0 331 k (by first | decide | omega)).trans (hr k (by first | decide | omega)).1
    have kr2 := (e0 332 k (by first | decide | omega)).trans (hr k (by first | decide | omega)).2.1
    have kr3 := (e0 333 k (by first | decide | omega)).trans (hr k (by first | decide | omega)).2.2
    have hjk := jbd_sqn (L := L) hw hd hn hj k (by first | decide | omega)
    have hs0 := hjk.2.2
    have hK := hw.1.2.2.2.2.1
    refine gx_ld (i := 3) (d := 0) (v := .inl k) rfl (fun _ => rfl) l3 rfl rfl ?_
    refine gx_ld (i := 0) (d := 2) (v := gx_r 0) rfl (fun _ => rfl) l0 rfl rfl ?_
    refine gxo_get (a := 0) rfl g0 rfl rfl k8 rfl ?_
    refine gxo_get (a := 329) rfl g0 rfl rfl kn0 rfl ?_
    refine gx_2f (c := .ge) rfl (by first | decide | omega) (by first | decide | omega) (show ¬ (nl ≤ k) from by omega) rfl ?_
    refine gx_ld (i := 0) (d := 2) (v := gx_r 0) rfl (fun _ => rfl) l0 rfl rfl ?_
    refine gx_ld (i := 0) (d := 2) (v := gx_r 0) rfl (fun _ => rfl) l0 rfl rfl ?_
    refine gxo_ref (a := 0) (c := 15) rfl g0 rfl rfl rfl rfl rfl ?_
    refine gx_ld (i := 0) (d := 2) (v := gx_r 0) rfl (fun _ => rfl) l0 rfl rfl ?_
    refine gxo_get (a := 0) rfl g0 rfl rfl k8 rfl ?_
    refine gxo_ref (a := 329) (c := 331) rfl g0 rfl rfl rfl rfl rfl ?_
    refine gx_ld (i := 3) (d := 0) (v := .inl k) rfl (fun _ => rfl) l3 rfl rfl ?_
    refine gx_ag (v := .inl ((δ k).1)) (cb := fun c => Nat.beq c 0) rfl (fun _ => rfl) g0 rfl rfl kr1 (by first | decide | omega) rfl ?_
    refine gx_ld (i := 0) (d := 2) (v := gx_r 0) rfl (fun _ => rfl) l0 rfl rfl ?_
    refine gxo_get (a := 0) rfl g0 rfl rfl k8 rfl ?_
    refine gxo_ref (a := 329) (c := 332) rfl g0 rfl rfl rfl rfl rfl ?_
    refine gx_ld (i := 3) (d := 0) (v := .inl k) rfl (fun _ => rfl) l3 rfl rfl ?_
    refine gx_ag (v := .inl ((δ k).2.1)) (cb := fun c => Nat.beq c 0) rfl (fun _ => rfl) g0 rfl rfl kr2 (by first | decide | omega) rfl ?_
    refine gx_ld (i := 0) (d := 2) (v := gx_r 0) rfl (fun _ => rfl) l0 rfl rfl ?_
    refine gxo_get (a := 0) rfl g0 rfl rfl k8 rfl ?_
    refine gxo_ref (a := 329) (c := 333) rfl g0 rfl rfl rfl rfl rfl ?_
    refine gx_ld (i := 3) (d := 0) (v := .inl k) rfl (fun _ => rfl) l3 rfl rfl ?_
    refine gx_ag (v := .inl ((δ k).2.2)) (cb := fun c => Nat.beq c 0) rfl (fun _ => rfl) g0 rfl rfl kr3 (by first | decide | omega) rfl ?_
    rcases hd k (by first | decide | omega) with ⟨hk0, hv0⟩ | ⟨hk0, hc0, hv0⟩ | ⟨hk0, hc0, hv0⟩ | ⟨hk0, hc0⟩
    · rw [hk0]
      show en_ex _ _ _ _ (70, cl, [.inl ((δ k).2.2), .inl ((δ k).2.1), .inl 0, gx_r 15, gx_r 0], t0, n, 0) _
      obtain ⟨_, r121, t121, rfl, g121, e121, y121⟩ := sc_act0_15_257 d n (x := (δ k).2.2) (cr := (δ k).2.1) (σ := sqn w L δ σ k) g0 (CW_keep hC (fun c i h => e0 c i (by first | decide | omega))) hw hjk.1 k9 hv0 hS
      have hval : itp w L (δ k).2.2 (sqn w L δ σ k) 0 ≤ 1000 := by
        rw [itp_0 hs0 (by first | decide | omega) _ hv0]
        omega
      have hcn : dlc w (sqn w L δ σ k) (δ k) := Or.inl hk0
      have y9 : SC t121 15 (w 0 2) (w 0 4) (sqn w L δ σ (k + 1)) := by
        show SC t121 15 (w 0 2) (w 0 4) (dls w L (sqn w L δ σ k) (δ k))
        rw [dls_0 hk0]
        exact y121
      refine gx_callo (a := 0) rfl rfl g0 rfl rfl rfl r121 rfl ?_
      show en_ex _ _ _ _ (73, cl, [.inl (itp w L (δ k).2.2 (sqn w L δ σ k) 0)], t121, n, 0) _
      refine gx_sto (i := 4) (d := 0) rfl (fun _ => rfl) rfl rfl (fun l22 hl22 ml22 => ?_)
      have l22_0 : en_ld l22 0 = some (gx_r 0) := ml22 0 _ l0 rfl
      have l22_1 : en_ld l22 1 = some (.inl x) := ml22 1 _ l1 rfl
      have l22_2 : en_ld l22 2 = some (.inl (wrn w L δ σ k)) := ml22 2 _ l2 rfl
      have l22_3 : en_ld l22 3 = some (.inl k) := ml22 3 _ l3 rfl
      refine gx_ld (i := 4) (d := 0) (v := .inl (itp w L (δ k).2.2 (sqn w L δ σ k) 0)) rfl (fun _ => rfl) hl22 rfl rfl ?_
      refine ex_go (S := (78, l22, [.inl 4294967295, .inl (itp w L (δ k).2.2 (sqn w L δ σ k) 0)], t121, n, 0)) rfl (fun _ => rfl) rfl ?_
      refine gx_2mt (c := .ne) rfl (by first | decide | omega) rfl rfl ?_
      refine gx_incS (i := 3) (a := k) (x := 1) rfl (fun _ => rfl) l22_3 (by first | decide | omega) rfl (fun l23 hl23 ml23 => ?_)
      have l23_0 : en_ld l23 0 = some (gx_r 0) := ml23 0 _ l22_0 rfl
      have l23_1 : en_ld l23 1 = some (.inl x) := ml23 1 _ l22_1 rfl
      have l23_2 : en_ld l23 2 = some (.inl (wrn w L δ σ k)) := ml23 2 _ l22_2 rfl
      have l23_4 : en_ld l23 4 = some (.inl (itp w L (δ k).2.2 (sqn w L δ σ k) 0)) := ml23 4 _ hl22 rfl
      refine ex_go (S := (27, l23, [], t121, n, 0)) rfl (fun _ => rfl) rfl ?_
      exact ih (k + 1) _ _ (by first | decide | omega) g121 (fun c i h => (e121 c i (by first | decide | omega)).trans (e0 c i (by first | decide | omega))) y9 l23_0 l23_1 (by rw [wrn_s (Or.inl hcn)]; exact l23_2) hl23
    · rw [hk0]
      by_cases hm : mayH w (sqn w L δ σ k) (δ k).2.1 (δ k).2.2
      · show en_ex _ _ _ _ (70, cl, [.inl ((δ k).2.2), .inl ((δ k).2.1), .inl 1, gx_r 15, gx_r 0], t0, n, 0) _
        obtain ⟨_, r124, y124, t124, rfl, g124, e124, a124, b124⟩ := sc_act1_15_257 d n (σ := sqn w L δ σ k) (c := (δ k).2.1) (to := (δ k).2.2) g0 (CW_keep hC (fun c i h => e0 c i (by first | decide | omega))) hw hjk.1 hS k9 (CX_keep hX (fun c i h => e0 c i (by first | decide | omega))) (by first | decide | omega) hv0 hc0
        obtain ⟨rfl, y1⟩ := a124 hm
        have hcn : dlc w (sqn w L δ σ k) (δ k) := (dlc_1 hk0).mpr hm
        have y9 : SC t124 15 (w 0 2) (w 0 4) (sqn w L δ σ (k + 1)) := by
          show SC t124 15 (w 0 2) (w 0 4) (dls w L (sqn w L δ σ k) (δ k))
          rw [dls_1 hk0 hm]
          exact y1
        refine gx_callo (a := 0) rfl rfl g0 rfl rfl rfl r124 rfl ?_
        show en_ex _ _ _ _ (73, cl, [.inl 0], t124, n, 0) _
        refine gx_sto (i := 4) (d := 0) rfl (fun _ => rfl) rfl rfl (fun l25 hl25 ml25 => ?_)
        have l25_0 : en_ld l25 0 = some (gx_r 0) := ml25 0 _ l0 rfl
        have l25_1 : en_ld l25 1 = some (.inl x) := ml25 1 _ l1 rfl
        have l25_2 : en_ld l25 2 = some (.inl (wrn w L δ σ k)) := ml25 2 _ l2 rfl
        have l25_3 : en_ld l25 3 = some (.inl k) := ml25 3 _ l3 rfl
        refine gx_ld (i := 4) (d := 0) (v := .inl 0) rfl (fun _ => rfl) hl25 rfl rfl ?_
        refine ex_go (S := (78, l25, [.inl 4294967295, .inl 0], t124, n, 0)) rfl (fun _ => rfl) rfl ?_
        refine ex_go (S := (88, l25, [], t124, n, 0)) rfl (fun _ => rfl) rfl ?_
        refine gx_incS (i := 3) (a := k) (x := 1) rfl (fun _ => rfl) l25_3 (by first | decide | omega) rfl (fun l26 hl26 ml26 => ?_)
        have l26_0 : en_ld l26 0 = some (gx_r 0) := ml26 0 _ l25_0 rfl
        have l26_1 : en_ld l26 1 = some (.inl x) := ml26 1 _ l25_1 rfl
        have l26_2 : en_ld l26 2 = some (.inl (wrn w L δ σ k)) := ml26 2 _ l25_2 rfl
        have l26_4 : en_ld l26 4 = some (.inl 0) := ml26 4 _ hl25 rfl
        refine ex_go (S := (27, l26, [], t124, n, 0)) rfl (fun _ => rfl) rfl ?_
        exact ih (k + 1) _ _ (by first | decide | omega) g124 (fun c i h => (e124 c i (by first | decide | omega)).trans (e0 c i (by first | decide | omega))) y9 l26_0 l26_1 (by rw [wrn_s (Or.inl hcn)]; exact l26_2) hl26
      · show en_ex _ _ _ _ (70, cl, [.inl ((δ k).2.2), .inl ((δ k).2.1), .inl 1, gx_r 15, gx_r 0], t0, n, 0) _
        obtain ⟨_, r127, y127, t127, rfl, g127, e127, a127, b127⟩ := sc_act1_15_257 d n (σ := sqn w L δ σ k) (c := (δ k).2.1) (to := (δ k).2.2) g0 (CW_keep hC (fun c i h => e0 c i (by first | decide | omega))) hw hjk.1 hS k9 (CX_keep hX (fun c i h => e0 c i (by first | decide | omega))) (by first | decide | omega) hv0 hc0
        obtain ⟨rfl, e9⟩ := b127 hm
        have hcn : ¬ dlc w (sqn w L δ σ k) (δ k) := fun q9 => hm ((dlc_1 hk0).mp q9)
        have y9 : SC t127 15 (w 0 2) (w 0 4) (sqn w L δ σ (k + 1)) := by
          show SC t127 15 (w 0 2) (w 0 4) (dls w L (sqn w L δ σ k) (δ k))
          rw [dls_n hcn, e9]
          exact hS
        refine gx_callo (a := 0) rfl rfl g0 rfl rfl rfl r127 rfl ?_
        show en_ex _ _ _ _ (73, cl, [.inl 4294967295], t127, n, 0) _
        refine gx_sto (i := 4) (d := 0) rfl (fun _ => rfl) rfl rfl (fun l28 hl28 ml28 => ?_)
        have l28_0 : en_ld l28 0 = some (gx_r 0) := ml28 0 _ l0 rfl
        have l28_1 : en_ld l28 1 = some (.inl x) := ml28 1 _ l1 rfl
        have l28_2 : en_ld l28 2 = some (.inl (wrn w L δ σ k)) := ml28 2 _ l2 rfl
        have l28_3 : en_ld l28 3 = some (.inl k) := ml28 3 _ l3 rfl
        refine gx_ld (i := 4) (d := 0) (v := .inl 4294967295) rfl (fun _ => rfl) hl28 rfl rfl ?_
        refine ex_go (S := (78, l28, [.inl 4294967295, .inl 4294967295], t127, n, 0)) rfl (fun _ => rfl) rfl ?_
        refine ex_go (S := (81, l28, [], t127, n, 0)) rfl (fun _ => rfl) rfl ?_
        refine gx_ld (i := 2) (d := 0) (v := .inl (wrn w L δ σ k)) rfl (fun _ => rfl) l28_2 rfl rfl ?_
        rcases wrn_bd (w := w) (L := L) (δ := δ) (σ := σ) k with e8 | e8
        · rw [e8]
          show en_ex _ _ _ _ (82, l28, [.inl 4294967295], t127, n, 0) _
          refine ex_go (S := (83, l28, [.inl 4294967295, .inl 4294967295], t127, n, 0)) rfl (fun _ => rfl) rfl ?_
          refine ex_go (S := (86, l28, [], t127, n, 0)) rfl (fun _ => rfl) rfl ?_
          refine gx_ld (i := 3) (d := 0) (v := .inl k) rfl (fun _ => rfl) l28_3 rfl rfl ?_
          refine gx_sto (i := 2) (d := 0) rfl (fun _ => rfl) rfl rfl (fun l29 hl29 ml29 => ?_)
          have l29_0 : en_ld l29 0 = some (gx_r 0) := ml29 0 _ l28_0 rfl
          have l29_1 : en_ld l29 1 = some (.inl x) := ml29 1 _ l28_1 rfl
          have l29_3 : en_ld l29 3 = some (.inl k) := ml29 3 _ l28_3 rfl
          have l29_4 : en_ld l29 4 = some (.inl 4294967295) := ml29 4 _ hl28 rfl
          refine gx_incS (i := 3) (a := k) (x := 1) rfl (fun _ => rfl) l29_3 (by first | decide | omega) rfl (fun l30 hl30 ml30 => ?_)
          have l30_0 : en_ld l30 0 = some (gx_r 0) := ml30 0 _ l29_0 rfl
          have l30_1 : en_ld l30 1 = some (.inl x) := ml30 1 _ l29_1 rfl
          have l30_4 : en_ld l30 4 = some (.inl 4294967295) := ml30 4 _ l29_4 rfl
          have l30_2 : en_ld l30 2 = some (.inl k) := ml30 2 _ hl29 rfl
          refine ex_go (S := (27, l30, [], t127, n, 0)) rfl (fun _ => rfl) rfl ?_
          exact ih (k + 1) _ _ (by first | decide | omega) g127 (fun c i h => (e127 c i (by first | decide | omega)).trans (e0 c i (by first | decide | omega))) y9 l30_0 l30_1 (by rw [wrn_k hcn e8]; exact l30_2) hl30
        · have := e8
          refine ex_go (S := (83, l28, [.inl 4294967295, .inl (wrn w L δ σ k)], t127, n, 0)) rfl (fun _ => rfl) rfl ?_
          refine gx_2mt (c := .ne) rfl (by first | decide | omega) rfl rfl ?_
          refine gx_incS (i := 3) (a := k) (x := 1) rfl (fun _ => rfl) l28_3 (by first | decide | omega) rfl (fun l31 hl31 ml31 => ?_)
          have l31_0 : en_ld l31 0 = some (gx_r 0) := ml31 0 _ l28_0 rfl
          have l31_1 : en_ld l31 1 = some (.inl x) := ml31 1 _ l28_1 rfl
          have l31_2 : en_ld l31 2 = some (.inl (wrn w L δ σ k)) := ml31 2 _ l28_2 rfl
          have l31_4 : en_ld l31 4 = some (.inl 4294967295) := ml31 4 _ hl28 rfl
          refine ex_go (S := (27, l31, [], t127, n, 0)) rfl (fun _ => rfl) rfl ?_
          exact ih (k + 1) _ _ (by first | decide | omega) g127 (fun c i h => (e127 c i (by first | decide | omega)).trans (e0 c i (by first | decide | omega))) y9 l31_0 l31_1 (by rw [wrn_s (Or.inr (by first | decide | omega))]; exact l31_2) hl31
    · rw [hk0]
      by_cases hm : mayL w (sqn w L δ σ k) (δ k).2.1
      · show en_ex _ _ _ _ (70, cl, [.inl ((δ k).2.2), .inl ((δ k).2.1), .inl 2, gx_r 15, gx_r 0], t0, n, 0) _
        obtain ⟨_, r132, y132, t132, rfl, g132, e132, a132, b132⟩ := sc_act2_15_257 d n (σ := sqn w L δ σ k) (c := (δ k).2.1) (v := (δ k).2.2) g0 (CW_keep hC (fun c i h => e0 c i (by first | decide | omega))) hw hjk.1 hS k9 hjk.2.1 hv0 hc0
        obtain ⟨rfl, y1⟩ := a132 hm
        have hcn : dlc w (sqn w L δ σ k) (δ k) := (dlc_2 hk0).mpr hm
        have y9 : SC t132 15 (w 0 2) (w 0 4) (sqn w L δ σ (k + 1)) := by
          show SC t132 15 (w 0 2) (w 0 4) (dls w L (sqn w L δ σ k) (δ k))
          rw [dls_2 hk0 hm]
          exact y1
        have hlv : lnv (sqn w L δ σ k) (δ k).2.1 (δ k).2.2 ≤ 999 := Nat.le_trans (Nat.min_le_left _ _) hv0
        refine gx_callo (a := 0) rfl rfl g0 rfl rfl rfl r132 rfl ?_
        show en_ex _ _ _ _ (73, cl, [.inl (lnv (sqn w L δ σ k) (δ k).2.1 (δ k).2.2)], t132, n, 0) _
        refine gx_sto (i := 4) (d := 0) rfl (fun _ => rfl) rfl rfl (fun l33 hl33 ml33 => ?_)
        have l33_0 : en_ld l33 0 = some (gx_r 0) := ml33 0 _ l0 rfl
        have l33_1 : en_ld l33 1 = some (.inl x) := ml33 1 _ l1 rfl
        have l33_2 : en_ld l33 2 = some (.inl (wrn w L δ σ k)) := ml33 2 _ l2 rfl
        have l33_3 : en_ld l33 3 = some (.inl k) := ml33 3 _ l3 rfl
        refine gx_ld (i := 4) (d := 0) (v := .inl (lnv (sqn w L δ σ k) (δ k).2.1 (δ k).2.2)) rfl (fun _ => rfl) hl33 rfl rfl ?_
        refine ex_go (S := (78, l33, [.inl 4294967295, .inl (lnv (sqn w L δ σ k) (δ k).2.1 (δ k).2.2)], t132, n, 0)) rfl (fun _ => rfl) rfl ?_
        refine gx_2mt (c := .ne) rfl (by first | decide | omega) rfl rfl ?_
        refine gx_incS (i := 3) (a := k) (x := 1) rfl (fun _ => rfl) l33_3 (by first | decide | omega) rfl (fun l34 hl34 ml34 => ?_)
        have l34_0 : en_ld l34 0 = some (gx_r 0) := ml34 0 _ l33_0 rfl
        have l34_1 : en_ld l34 1 = some (.inl x) := ml34 1 _ l33_1 rfl
        have l34_2 : en_ld l34 2 = some (.inl (wrn w L δ σ k)) := ml34 2 _ l33_2 rfl
        have l34_4 : en_ld l34 4 = some (.inl (lnv (sqn w L δ σ k) (δ k).2.1 (δ k).2.2)) := ml34 4 _ hl33 rfl
        refine ex_go (S := (27, l34, [], t132, n, 0)) rfl (fun _ => rfl) rfl ?_
        exact ih (k + 1) _ _ (by first | decide | omega) g132 (fun c i h => (e132 c i (by first | decide | omega)).trans (e0 c i (by first | decide | omega))) y9 l34_0 l34_1 (by rw [wrn_s (Or.inl hcn)]; exact l34_2) hl34
      · show en_ex _ _ _ _ (70, cl, [.inl ((δ k).2.2), .inl ((δ k).2.1), .inl 2, gx_r 15, gx_r 0], t0, n, 0) _
        obtain ⟨_, r135, y135, t135, rfl, g135, e135, a135, b135⟩ := sc_act2_15_257 d n (σ := sqn w L δ σ k) (c := (δ k).2.1) (v := (δ k).2.2) g0 (CW_keep hC (fun c i h => e0 c i (by first | decide | omega))) hw hjk.1 hS k9 hjk.2.1 hv0 hc0
        obtain ⟨rfl, e9⟩ := b135 hm
        have hcn : ¬ dlc w (sqn w L δ σ k) (δ k) := fun q9 => hm ((dlc_2 hk0).mp q9)
        have y9 : SC t135 15 (w 0 2) (w 0 4) (sqn w L δ σ (k + 1)) := by
          show SC t135 15 (w 0 2) (w 0 4) (dls w L (sqn w L δ σ k) (δ k))
          rw [dls_n hcn, e9]
          exact hS
        refine gx_callo (a := 0) rfl rfl g0 rfl rfl rfl r135 rfl ?_
        show en_ex _ _ _ _ (73, cl, [.inl 4294967295], t135, n, 0) _
        refine gx_sto (i := 4) (d := 0) rfl (fun _ => rfl) rfl rfl (fun l36 hl36 ml36 => ?_)
        have l36_0 : en_ld l36 0 = some (gx_r 0) := ml36 0 _ l0 rfl
        have l36_1 : en_ld l36 1 = some (.inl x) := ml36 1 _ l1 rfl
        have l36_2 : en_ld l36 2 = some (.inl (wrn w L δ σ k)) := ml36 2 _ l2 rfl
        have l36_3 : en_ld l36 3 = some (.inl k) := ml36 3 _ l3 rfl
        refine gx_ld (i := 4) (d := 0) (v := .inl 4294967295) rfl (fun _ => rfl) hl36 rfl rfl ?_
        refine ex_go (S := (78, l36, [.inl 4294967295, .inl 4294967295], t135, n, 0)) rfl (fun _ => rfl) rfl ?_
        refine ex_go (S := (81, l36, [], t135, n, 0)) rfl (fun _ => rfl) rfl ?_
        refine gx_ld (i := 2) (d := 0) (v := .inl (wrn w L δ σ k)) rfl (fun _ => rfl) l36_2 rfl rfl ?_
        rcases wrn_bd (w := w) (L := L) (δ := δ) (σ := σ) k with e8 | e8
        · rw [e8]
          show en_ex _ _ _ _ (82, l36, [.inl 4294967295], t135, n, 0) _
          refine ex_go (S := (83, l36, [.inl 4294967295, .inl 4294967295], t135, n, 0)) rfl (fun _ => rfl) rfl ?_
          refine ex_go (S := (86, l36, [], t135, n, 0)) rfl (fun _ => rfl) rfl ?_
          refine gx_ld (i := 3) (d := 0) (v := .inl k) rfl (fun _ => rfl) l36_3 rfl rfl ?_
          refine gx_sto (i := 2) (d := 0) rfl (fun _ => rfl) rfl rfl (fun l37 hl37 ml37 => ?_)
          have l37_0 : en_ld l37 0 = some (gx_r 0) := ml37 0 _ l36_0 rfl
          have l37_1 : en_ld l37 1 = some (.inl x) := ml37 1 _ l36_1 rfl
          have l37_3 : en_ld l37 3 = some (.inl k) := ml37 3 _ l36_3 rfl
          have l37_4 : en_ld l37 4 = some (.inl 4294967295) := ml37 4 _ hl36 rfl
          refine gx_incS (i := 3) (a := k) (x := 1) rfl (fun _ => rfl) l37_3 (by first | decide | omega) rfl (fun l38 hl38 ml38 => ?_)
          have l38_0 : en_ld l38 0 = some (gx_r 0) := ml38 0 _ l37_0 rfl
          have l38_1 : en_ld l38 1 = some (.inl x) := ml38 1 _ l37_1 rfl
          have l38_4 : en_ld l38 4 = some (.inl 4294967295) := ml38 4 _ l37_4 rfl
          have l38_2 : en_ld l38 2 = some (.inl k) := ml38 2 _ hl37 rfl
          refine ex_go (S := (27, l38, [], t135, n, 0)) rfl (fun _ => rfl) rfl ?_
          exact ih (k + 1) _ _ (by first | decide | omega) g135 (fun c i h => (e135 c i (by first | decide | omega)).trans (e0 c i (by first | decide | omega))) y9 l38_0 l38_1 (by rw [wrn_k hcn e8]; exact l38_2) hl38
        · have := e8
          refine ex_go (S := (83, l36, [.inl 4294967295, .inl (wrn w L δ σ k)], t135, n, 0)) rfl (fun _ => rfl) rfl ?_
          refine gx_2mt (c := .ne) rfl (by first | decide | omega) rfl rfl ?_
          refine gx_incS (i := 3) (a := k) (x := 1) rfl (fun _ => rfl) l36_3 (by first | decide | omega) rfl (fun l39 hl39 ml39 => ?_)
          have l39_0 : en_ld l39 0 = some (gx_r 0) := ml39 0 _ l36_0 rfl
          have l39_1 : en_ld l39 1 = some (.inl x) := ml39 1 _ l36_1 rfl
          have l39_2 : en_ld l39 2 = some (.inl (wrn w L δ σ k)) := ml39 2 _ l36_2 rfl
          have l39_4 : en_ld l39 4 = some (.inl 4294967295) := ml39 4 _ hl36 rfl
          refine ex_go (S := (27, l39, [], t135, n, 0)) rfl (fun _ => rfl) rfl ?_
          exact ih (k + 1) _ _ (by first | decide | omega) g135 (fun c i h => (e135 c i (by first | decide | omega)).trans (e0 c i (by first | decide | omega))) y9 l39_0 l39_1 (by rw [wrn_s (Or.inr (by first | decide | omega))]; exact l39_2) hl39
    · rw [hk0]
      by_cases hm : mayM w (sqn w L δ σ k) (δ k).2.1
      · show en_ex _ _ _ _ (70, cl, [.inl ((δ k).2.2), .inl ((δ k).2.1), .inl 3, gx_r 15, gx_r 0], t0, n, 0) _
        obtain ⟨_, r140, y140, t140, rfl, g140, e140, a140, b140⟩ := sc_act3_15_257 d n (σ := sqn w L δ σ k) (c := (δ k).2.1) (to := (δ k).2.2) g0 (CW_keep hC (fun c i h => e0 c i (by first | decide | omega))) hw hjk.1 hS k9 hc0
        obtain ⟨rfl, y1⟩ := a140 hm
        have hcn : dlc w (sqn w L δ σ k) (δ k) := (dlc_3 hk0).mpr hm
        have y9 : SC t140 15 (w 0 2) (w 0 4) (sqn w L δ σ (k + 1)) := by
          show SC t140 15 (w 0 2) (w 0 4) (dls w L (sqn w L δ σ k) (δ k))
          rw [dls_3 hk0 hm]
          exact y1
        refine gx_callo (a := 0) rfl rfl g0 rfl rfl rfl r140 rfl ?_
        show en_ex _ _ _ _ (73, cl, [.inl 0], t140, n, 0) _
        refine gx_sto (i := 4) (d := 0) rfl (fun _ => rfl) rfl rfl (fun l41 hl41 ml41 => ?_)
        have l41_0 : en_ld l41 0 = some (gx_r 0) := ml41 0 _ l0 rfl
        have l41_1 : en_ld l41 1 = some (.inl x) := ml41 1 _ l1 rfl
        have l41_2 : en_ld l41 2 = some (.inl (wrn w L δ σ k)) := ml41 2 _ l2 rfl
        have l41_3 : en_ld l41 3 = some (.inl k) := ml41 3 _ l3 rfl
        refine gx_ld (i := 4) (d := 0) (v := .inl 0) rfl (fun _ => rfl) hl41 rfl rfl ?_
        refine ex_go (S := (78, l41, [.inl 4294967295, .inl 0], t140, n, 0)) rfl (fun _ => rfl) rfl ?_
        refine ex_go (S := (88, l41, [], t140, n, 0)) rfl (fun _ => rfl) rfl ?_
        refine gx_incS (i := 3) (a := k) (x := 1) rfl (fun _ => rfl) l41_3 (by first | decide | omega) rfl (fun l42 hl42 ml42 => ?_)
        have l42_0 : en_ld l42 0 = some (gx_r 0) := ml42 0 _ l41_0 rfl
        have l42_1 : en_ld l42 1 = some (.inl x) := ml42 1 _ l41_1 rfl
        have l42_2 : en_ld l42 2 = some (.inl (wrn w L δ σ k)) := ml42 2 _ l41_2 rfl
        have l42_4 : en_ld l42 4 = some (.inl 0) := ml42 4 _ hl41 rfl
        refine ex_go (S := (27, l42, [], t140, n, 0)) rfl (fun _ => rfl) rfl ?_
        exact ih (k + 1) _ _ (by first | decide | omega) g140 (fun c i h => (e140 c i (by first | decide | omega)).trans (e0 c i (by first | decide | omega))) y9 l42_0 l42_1 (by rw [wrn_s (Or.inl hcn)]; exact l42_2) hl42
      · show en_ex _ _ _ _ (70, cl, [.inl ((δ k).2.2), .inl ((δ k).2.1), .inl 3, gx_r 15, gx_r 0], t0, n, 0) _
        obtain ⟨_, r143, y143, t143, rfl, g143, e143, a143, b143⟩ := sc_act3_15_257 d n (σ := sqn w L δ σ k) (c := (δ k).2.1) (to := (δ k).2.2) g0 (CW_keep hC (fun c i h => e0 c i (by first | decide | omega))) hw hjk.1 hS k9 hc0
        obtain ⟨rfl, e9⟩ := b143 hm
        have hcn : ¬ dlc w (sqn w L δ σ k) (δ k) := fun q9 => hm ((dlc_3 hk0).mp q9)
        have y9 : SC t143 15 (w 0 2) (w 0 4) (sqn w L δ σ (k + 1)) := by
          show SC t143 15 (w 0 2) (w 0 4) (dls w L (sqn w L δ σ k) (δ k))
          rw [dls_n hcn, e9]
          exact hS
        refine gx_callo (a := 0) rfl rfl g0 rfl rfl rfl r143 rfl ?_
        show en_ex _ _ _ _ (73, cl, [.inl 4294967295], t143, n, 0) _
        refine gx_sto (i := 4) (d := 0) rfl (fun _ => rfl) rfl rfl (fun l44 hl44 ml44 => ?_)
        have l44_0 : en_ld l44 0 = some (gx_r 0) := ml44 0 _ l0 rfl
        have l44_1 : en_ld l44 1 = some (.inl x) := ml44 1 _ l1 rfl
        have l44_2 : en_ld l44 2 = some (.inl (wrn w L δ σ k)) := ml44 2 _ l2 rfl
        have l44_3 : en_ld l44 3 = some (.inl k) := ml44 3 _ l3 rfl
        refine gx_ld (i := 4) (d := 0) (v := .inl 4294967295) rfl (fun _ => rfl) hl44 rfl rfl ?_
        refine ex_go (S := (78, l44, [.inl 4294967295, .inl 4294967295], t143, n, 0)) rfl (fun _ => rfl) rfl ?_
        refine ex_go (S := (81, l44, [], t143, n, 0)) rfl (fun _ => rfl) rfl ?_
        refine gx_ld (i := 2) (d := 0) (v := .inl (wrn w L δ σ k)) rfl (fun _ => rfl) l44_2 rfl rfl ?_
        rcases wrn_bd (w := w) (L := L) (δ := δ) (σ := σ) k with e8 | e8
        · rw [e8]
          show en_ex _ _ _ _ (82, l44, [.inl 4294967295], t143, n, 0) _
          refine ex_go (S := (83, l44, [.inl 4294967295, .inl 4294967295], t143, n, 0)) rfl (fun _ => rfl) rfl ?_
          refine ex_go (S := (86, l44, [], t143, n, 0)) rfl (fun _ => rfl) rfl ?_
          refine gx_ld (i := 3) (d := 0) (v := .inl k) rfl (fun _ => rfl) l44_3 rfl rfl ?_
          refine gx_sto (i := 2) (d := 0) rfl (fun _ => rfl) rfl rfl (fun l45 hl45 ml45 => ?_)
          have l45_0 : en_ld l45 0 = some (gx_r 0) := ml45 0 _ l44_0 rfl
          have l45_1 : en_ld l45 1 = some (.inl x) := ml45 1 _ l44_1 rfl
          have l45_3 : en_ld l45 3 = some (.inl k) := ml45 3 _ l44_3 rfl
          have l45_4 : en_ld l45 4 = some (.inl 4294967295) := ml45 4 _ hl44 rfl
          refine gx_incS (i := 3) (a := k) (x := 1) rfl (fun _ => rfl) l45_3 (by first | decide | omega) rfl (fun l46 hl46 ml46 => ?_)
          have l46_0 : en_ld l46 0 = some (gx_r 0) := ml46 0 _ l45_0 rfl
          have l46_1 : en_ld l46 1 = some (.inl x) := ml46 1 _ l45_1 rfl
          have l46_4 : en_ld l46 4 = some (.inl 4294967295) := ml46 4 _ l45_4 rfl
          have l46_2 : en_ld l46 2 = some (.inl k) := ml46 2 _ hl45 rfl
          refine ex_go (S := (27, l46, [], t143, n, 0)) rfl (fun _ => rfl) rfl ?_
          exact ih (k + 1) _ _ (by first | decide | omega) g143 (fun c i h => (e143 c i (by first | decide | omega)).trans (e0 c i (by first | decide | omega))) y9 l46_0 l46_1 (by rw [wrn_k hcn e8]; exact l46_2) hl46
        · have := e8
          refine ex_go (S := (83, l44, [.inl 4294967295, .inl (wrn w L δ σ k)], t143, n, 0)) rfl (fun _ => rfl) rfl ?_
          refine gx_2mt (c := .ne) rfl (by first | decide | omega) rfl rfl ?_
          refine gx_incS (i := 3) (a := k) (x := 1) rfl (fun _ => rfl) l44_3 (by first | decide | omega) rfl (fun l47 hl47 ml47 => ?_)
          have l47_0 : en_ld l47 0 = some (gx_r 0) := ml47 0 _ l44_0 rfl
          have l47_1 : en_ld l47 1 = some (.inl x) := ml47 1 _ l44_1 rfl
          have l47_2 : en_ld l47 2 = some (.inl (wrn w L δ σ k)) := ml47 2 _ l44_2 rfl
          have l47_4 : en_ld l47 4 = some (.inl 4294967295) := ml47 4 _ hl44 rfl
          refine ex_go (S := (27, l47, [], t143, n, 0)) rfl (fun _ => rfl) rfl ?_
          exact ih (k + 1) _ _ (by first | decide | omega) g143 (fun c i h => (e143 c i (by first | decide | omega)).trans (e0 c i (by first | decide | omega))) y9 l47_0 l47_1 (by rw [wrn_s (Or.inr (by first | decide | omega))]; exact l47_2) hl47
theorem sc_judged257_329 (d n : Nat) {t0 : en_H} {w : Nat → Nat → Nat} {L : List Nat} {σ : Nat → Nat} {δ : Nat → Nat × Nat × Nat} {nl x : Nat} (g0 : ai_HG ah_G t0) (hC : CW t0 257 w L) (hw : WS w) (hX : CX t0 257 w) (k10 : ai_hv t0 0 10 = some (gx_r 257)) (k12 : ai_hv t0 0 12 = some (gx_r 329)) (kn : ai_hv t0 329 5 = some (.inl nl)) (hn : nl ≤ 24) (hr : ∀ k, k < nl → ai_hv t0 331 k = some (.inl (δ k).1) ∧ ai_hv t0 332 k = some (.inl (δ k).2.1) ∧ ai_hv t0 333 k = some (.inl (δ k).2.2)) (hd : ∀ k, k < nl → dok w (δ k)) (hj : jbd σ 0) (z0 : σ 0 = 0) (z1 : ∀ i, i < w 0 2 → σ (1 + i) = w 6 i) (z7 : ∀ c, c < w 0 4 → σ (7 + c) = w 4 c) (z9 : ∀ j, 9 ≤ j → σ j = 0) (hx : x < 4294967296) : ∃ r, en_u (d + 6) 52 [gx_r 0, .inl x] t0 n = some r ∧ ∃ v t', r = (some (.inl v), t', n, 0) ∧ ai_HG ah_G t' ∧ (∀ c i, ¬ (c = 297 ∨ (15 ≤ c ∧ c ≤ 21)) → ai_hv t' c i = ai_hv t0 c i) ∧ ((x ≤ 2 → v = jan w L δ σ nl x) ∧ (¬ x ≤ 2 → v = 4294967294)) := by
  have hT := hw.1.2.2.1
  have hK := hw.1.2.2.2.2.1
  refine en_u_ex (d := d + 5) rfl ?_
  show en_ex _ _ _ _ (0, [(0, gx_r 0), (1, .inl x)], [], t0, n, 0) _
  refine ex_go (S := (1, [(0, gx_r 0), (1, .inl x)], [.inl x], t0, n, 0)) rfl (fun _ => rfl) rfl ?_
  refine ex_go (S := (2, [(0, gx_r 0), (1, .inl x)], [.inl 0, .inl x], t0, n, 0)) rfl (fun _ => rfl) rfl ?_
  refine ex_go (S := (3, [(0, gx_r 0), (1, .inl x)], [.inl 2, .inl 0, .inl x], t0, n, 0)) rfl (fun _ => rfl) rfl ?_
  obtain ⟨_, r21, b22, rfl, b22b, q23⟩ := pz_isWithin (d + 4) n (t0 := t0) (x := x) (lo := 0) (hi := 2) (by first | decide | omega) (by first | decide | omega) (by first | decide | omega)
  refine ex_stat rfl rfl rfl rfl rfl r21 (Nat.le_refl _) rfl ?_
  show en_ex _ _ _ _ (6, [(0, gx_r 0), (1, .inl x)], [.inl b22], t0, n, 0) _
  by_cases hc24 : b22 ≠ 0
  · refine gx_1t (c := .ne) rfl (by first | decide | omega) hc24 rfl ?_
    refine ex_go (S := (13, [(0, gx_r 0), (1, .inl x)], [gx_r 0], t0, n, 0)) rfl (fun _ => rfl) rfl ?_
    refine gxo_ref (a := 0) (c := 15) rfl g0 rfl rfl rfl rfl rfl ?_
    refine ex_go (S := (17, [(0, gx_r 0), (1, .inl x)], [gx_r 0, gx_r 15], t0, n, 0)) rfl (fun _ => rfl) rfl ?_
    refine gxo_get (a := 0) rfl g0 rfl rfl k10 rfl ?_
    obtain ⟨_, r125, t125, rfl, g125, e125, b0, b1, b2⟩ := pc_begin15_257 (d + 3) n (T := w 0 2) (P := w 6) (K := w 0 4) (B := w 4) g0 hT hC.1.2.2.2.1 (fun i hi => (hC.2.2.2.1 i hi).2) (fun i hi => (hw.2.2.1 i hi).2) hK hC.1.2.2.2.2.2 (fun c hc => (hC.2.2.1 c hc).2.2) (fun c hc => (hw.2.1 c hc).2.2)
    have hS9 : SC t125 15 (w 0 2) (w 0 4) σ := ⟨by rw [z0]; exact b0, fun i hi => by rw [z1 i hi]; exact b1 i hi, fun c hc => by
      obtain ⟨y1, y2, y3, y4, -⟩ := b2 c hc
      rw [z7 c hc, z9 (9 + c) (by first | decide | omega), z9 (11 + c) (by first | decide | omega), z9 (15 + c) (by first | decide | omega)]
      exact ⟨y1, y2, y3, y4, fun z => absurd z (by decide)⟩⟩
    refine gx_callo (a := 15) rfl rfl g0 rfl rfl rfl r125 rfl ?_
    have k26 : ai_hv t125 0 10 = some (gx_r 257) := (e125 0 10 (by first | decide | omega)).trans k10
    show en_ex _ _ _ _ (23, [(0, gx_r 0), (1, .inl x)], [], t125, n, 0) _
    refine ex_go (S := (24, [(0, gx_r 0), (1, .inl x)], [.inl 4294967295], t125, n, 0)) rfl (fun _ => rfl) rfl ?_
    refine ex_go (S := (25, [(2, .inl 4294967295), (0, gx_r 0), (1, .inl x)], [], t125, n, 0)) rfl (fun _ => rfl) rfl ?_
    refine ex_go (S := (26, [(2, .inl 4294967295), (0, gx_r 0), (1, .inl x)], [.inl 0], t125, n, 0)) rfl (fun _ => rfl) rfl ?_
    refine ex_go (S := (27, [(3, .inl 0), (2, .inl 4294967295), (0, gx_r 0), (1, .inl x)], [], t125, n, 0)) rfl (fun _ => rfl) rfl ?_
    refine jc_l257_329 d n (tb := t125) (σ := σ) (δ := δ) (nl := nl) (x := x) (CW_keep hC (fun c i h => e125 c i (by first | decide | omega))) hw (CX_keep hX (fun c i h => e125 c i (by first | decide | omega))) ((e125 0 10 (by first | decide | omega)).trans k10) ((e125 0 12 (by first | decide | omega)).trans k12) ((e125 329 5 (by first | decide | omega)).trans kn) hn (fun k hk => ⟨(e125 331 k (by first | decide | omega)).trans (hr k hk).1, (e125 332 k (by first | decide | omega)).trans (hr k hk).2.1, (e125 333 k (by first | decide | omega)).trans (hr k hk).2.2⟩) hd hj (fun cl t127 g127 e127 y127 l1270 l1271 l1272 => ?_) nl 0 _ _ (by first | decide | omega) g125 (fun _ _ _ => rfl) hS9 rfl rfl rfl rfl
    have k15 := y127.1
    have hwb := wrn_bd (w := w) (L := L) (δ := δ) (σ := σ) nl
    have k9 : ai_hv t127 0 10 = some (gx_r 257) := ((e127 0 10 (by first | decide | omega)).trans (e125 0 10 (by first | decide | omega))).trans k10
    refine gx_ld (i := 1) (d := 0) (v := .inl x) rfl (fun _ => rfl) l1271 rfl rfl ?_
    by_cases hc28 : x ≠ 0
    · refine gx_1t (c := .ne) rfl (by first | decide | omega) hc28 rfl ?_
      refine gx_ld (i := 1) (d := 0) (v := .inl x) rfl (fun _ => rfl) l1271 rfl rfl ?_
      refine ex_go (S := (102, cl, [.inl 1, .inl x], t127, n, 0)) rfl (fun _ => rfl) rfl ?_
      by_cases hc29 : x ≠ 1
      · refine gx_2t (c := .ne) rfl (by first | decide | omega) (by first | decide | omega) hc29 rfl ?_
        refine gx_ld (i := 0) (d := 2) (v := gx_r 0) rfl (fun _ => rfl) l1270 rfl rfl ?_
        refine gxo_ref (a := 0) (c := 15) rfl g127 rfl rfl rfl rfl rfl ?_
        refine gx_ld (i := 0) (d := 2) (v := gx_r 0) rfl (fun _ => rfl) l1270 rfl rfl ?_
        refine gxo_get (a := 0) rfl g127 rfl rfl k9 rfl ?_
        obtain ⟨_, r9, rfl⟩ := sc_bis257 (d + 4) n (σ := sqn w L δ σ nl) (B := 30 * nl) g127 (CW_keep hC (fun c i h => (e127 c i (by first | decide | omega)).trans (e125 c i (by first | decide | omega)))) hw y127 (jbd_sqn hw hd hn hj nl (Nat.le_refl _))
        refine gx_callo (a := 15) rfl rfl g127 rfl rfl rfl r9 rfl ?_
        show en_ex _ _ _ _ (126, cl, [.inl (bsm (sqn w L δ σ nl) (w 0 4))], t127, n, 0) _
        refine ex_ret (r := (some (.inl (bsm (sqn w L δ σ nl) (w 0 4))), t127, n, 0)) rfl (fun _ => rfl) ?_
        exact ⟨_, rfl, _, _, rfl, g127, (fun c i h => (e127 c i (by first | decide | omega)).trans (e125 c i (by first | decide | omega))), (fun _ => ((if_neg (by first | decide | omega)).trans (if_neg (by first | decide | omega))).symm), (fun c9 => by omega)⟩
      · refine gx_2f (c := .ne) rfl (by first | decide | omega) (by first | decide | omega) hc29 rfl ?_
        refine gx_ld (i := 0) (d := 2) (v := gx_r 0) rfl (fun _ => rfl) l1270 rfl rfl ?_
        refine gxo_ref (a := 0) (c := 15) rfl g127 rfl rfl rfl rfl rfl ?_
        refine gxo_get (a := 15) rfl g127 rfl rfl k15 rfl ?_
        refine ex_go (S := (126, cl, [.inl (sqn w L δ σ nl 0)], t127, n, 0)) rfl (fun _ => rfl) rfl ?_
        refine ex_ret (r := (some (.inl (sqn w L δ σ nl 0)), t127, n, 0)) rfl (fun _ => rfl) ?_
        exact ⟨_, rfl, _, _, rfl, g127, (fun c i h => (e127 c i (by first | decide | omega)).trans (e125 c i (by first | decide | omega))), (fun _ => ((if_neg (by first | decide | omega)).trans (if_pos (by first | decide | omega))).symm), (fun c9 => by omega)⟩
    · refine gx_1f (c := .ne) rfl (by first | decide | omega) hc28 rfl ?_
      refine gx_ld (i := 2) (d := 0) (v := .inl (wrn w L δ σ nl)) rfl (fun _ => rfl) l1272 rfl rfl ?_
      refine ex_ret (r := (some (.inl (wrn w L δ σ nl)), t127, n, 0)) rfl (fun _ => rfl) ?_
      exact ⟨_, rfl, _, _, rfl, g127, (fun c i h => (e127 c i (by first | decide | omega)).trans (e125 c i (by first | decide | omega))), (fun _ => (if_pos (by first | decide | omega)).symm), (fun c9 => by omega)⟩
  · refine gx_1f (c := .ne) rfl (by first | decide | omega) hc24 rfl ?_
    refine ex_go (S := (11, [(0, gx_r 0), (1, .inl x)], [.inl 4294967294], t0, n, 0)) rfl (fun _ => rfl) rfl ?_
    refine ex_ret (r := (some (.inl 4294967294), t0, n, 0)) rfl (fun _ => rfl) ?_
    exact ⟨_, rfl, _, _, rfl, g0, (fun _ _ _ => rfl), (fun c9 => by omega), (fun _ => rfl)⟩
theorem bg_jbd {X Y B : Nat → Nat} (hX : ∀ i, i < 6 → X i ≤ 7) (hY : ∀ i, i < 6 → Y i ≤ 7) (hB : ∀ c, c < 2 → B c ≤ 9999) : jbd (bg0 X Y B) 0 := by
  have b0 := hB 0 (by decide)
  have b1 := hB 1 (by decide)
  have e7 : bg0 X Y B 7 = B 0 := bg_bi (c := 0) (by decide)
  have e8 : bg0 X Y B 8 = B 1 := bg_bi (c := 1) (by decide)
  refine ⟨⟨fun i hi => ?_, ⟨by omega, by omega⟩, ⟨?_, ?_⟩, ⟨?_, ?_⟩, ⟨?_, ?_⟩, ?_, ?_, ?_⟩, by omega, Nat.le_refl 0⟩
  · rw [bg_pl hi]
    have := hX i hi
    have := hY i hi
    omega
  · rw [bg_z (by decide)]; decide
  · rw [bg_z (by decide)]; decide
  · rw [bg_z (by decide)]; decide
  · rw [bg_z (by decide)]; decide
  · rw [bg_z (by decide)]; decide
  · rw [bg_z (by decide)]; decide
  · show 0 < 4294967296; decide
  · rw [bg_z (by decide)]; decide
  · rw [bg_z (by decide)]; decide
theorem LK_data {t : en_H} {w : Nat → Nat → Nat} {R k : Nat} (hw : WS w) (h : LK t R (w 0 4) (w 0 0) (w 0 1) k) : ∃ d : Nat × Nat × Nat, dok w d ∧ (ai_hv t (R + 2) k = some (.inl d.1) ∧ ai_hv t (R + 3) k = some (.inl d.2.1) ∧ ai_hv t (R + 4) k = some (.inl d.2.2)) ∧ LRd t w d (1 + 4 * k) := by
  have hO := hw.1.1
  have hD := hw.1.2.1
  rcases h with ⟨v, hv, h1, h3, h4⟩ | ⟨c, x, y, hv, h1, h4, h5, h6, h7⟩ | ⟨c, v, hv, h1, h4, h5, h6⟩ | ⟨c, hv, h1, h3, h4⟩
  · exact ⟨(0, 4294967295, v), Or.inl ⟨rfl, hv.2⟩, h1, Or.inl ⟨⟨rfl, hv.2⟩, h3, h4⟩⟩
  · exact ⟨(1, c, x + 8 * y), Or.inr (Or.inl ⟨rfl, hv.1, show x + 8 * y < 64 by omega⟩), h1, Or.inr (Or.inl ⟨⟨rfl, hv.1⟩, x, y, ⟨by omega, by omega, Nat.add_comm _ _⟩, h4, h5, h6, h7⟩)⟩
  · exact ⟨(2, c, v), Or.inr (Or.inr (Or.inl ⟨rfl, hv.1, hv.2.2⟩)), h1, Or.inr (Or.inr (Or.inl ⟨⟨rfl, hv.1, hv.2.2⟩, h4, h5, h6⟩))⟩
  · exact ⟨(3, c, 0), Or.inr (Or.inr (Or.inr ⟨rfl, hv⟩)), h1, Or.inr (Or.inr (Or.inr ⟨⟨rfl, hv⟩, h3, h4⟩))⟩
theorem zs_judged191_323 {n x nl O D K : Nat} {t : en_H} (g0 : ai_HG ah_G t) (hP : SPk 191 t) (k12 : ai_hv t 0 12 = some (gx_r 323)) (kO : ai_hv t 389 0 = some (.inl O)) (kD : ai_hv t 389 1 = some (.inl D)) (kK : ai_hv t 389 4 = some (.inl K)) (hn : nl ≤ 24) (kn : ai_hv t 323 5 = some (.inl nl)) (kl : ai_hv t 396 0 = some (.inl nl)) (hk : ∀ k, k < nl → LK t 323 K O D k) (hx : x < 4294967296) : zs_A 52 53 [gx_r 0, .inl x] [gx_r 383, .inl x] t n := by
  obtain ⟨k10, w, L, hR, hC, hX⟩ := hP
  have eO := wv_one kO (hR.1 0 (by decide))
  have eD := wv_one kD (hR.1 1 (by decide))
  have eK := wv_one kK (hR.1 4 (by decide))
  subst eO eD eK
  have hw := WS_of hR
  have hT := hw.1.2.2.1
  have hK2 := hw.1.2.2.2.2.1
  have hdat : ∀ k, ∃ d : Nat × Nat × Nat, k < nl → dok w d ∧ (ai_hv t (323 + 2) k = some (.inl d.1) ∧ ai_hv t (323 + 3) k = some (.inl d.2.1) ∧ ai_hv t (323 + 4) k = some (.inl d.2.2)) ∧ LRd t w d (1 + 4 * k) := fun k => by
    by_cases c : k < nl
    · obtain ⟨d, h⟩ := LK_data hw (hk k c)
      exact ⟨d, fun _ => h⟩
    · exact ⟨(0, 0, 0), fun z => absurd z c⟩
  obtain ⟨δ, hδ⟩ : ∃ δ : Nat → Nat × Nat × Nat, ∀ k, k < nl → dok w (δ k) ∧ (ai_hv t (323 + 2) k = some (.inl (δ k).1) ∧ ai_hv t (323 + 3) k = some (.inl (δ k).2.1) ∧ ai_hv t (323 + 4) k = some (.inl (δ k).2.2)) ∧ LRd t w (δ k) (1 + 4 * k) := ⟨fun k => Classical.choose (hdat k), fun k hk => Classical.choose_spec (hdat k) hk⟩
  obtain ⟨X, Y, B, x1, x2, x3, y1, y2, y3⟩ := pe_XYB g0
  have e6 : ∀ i, i < w 0 2 → w 6 i = X i + 8 * Y i := fun i hi => by
    obtain ⟨-, -, x, y, q1, q2, -, -, e⟩ := hR.2.2.2.2.1 i hi
    rw [e, wv_one q1 (x1 i (by first | decide | omega)), wv_one q2 (x2 i (by first | decide | omega))]
  have e4 : ∀ c, c < w 0 4 → w 4 c = B c := fun c hc => by
    obtain ⟨-, -, -, -, q1, -⟩ := hR.2.2.2.1 c hc
    exact wv_one q1 (x3 c (by first | decide | omega))
  have hj := bg_jbd y1 y2 y3
  obtain ⟨_, r1, z1, t1, rfl, g1, e1, a1, a2⟩ := sc_judged191_323 54 n (σ := bg0 X Y B) (δ := δ) (nl := nl) g0 hC hw hX k10 k12 kn hn (fun k hk => (hδ k hk).2.1) (fun k hk => (hδ k hk).1) hj rfl (fun i hi => by rw [bg_pl (by first | decide | omega), e6 i hi]) (fun c hc => by rw [bg_bi (by first | decide | omega), e4 c hc]) (fun j hj => bg_z hj) hx
  obtain ⟨_, r2, z2, t2, rfl, b1, b2⟩ := sr_judged 53 n (δ := δ) (nl := nl) g1 (RW_keep hR (fun i hi => e1 389 i (by first | decide | omega)) (fun c i hc _ => e1 c i (by first | decide | omega))) (fun i hi => (e1 389 _ (by first | decide | omega)).trans (x1 i hi)) (fun i hi => (e1 389 _ (by first | decide | omega)).trans (x2 i hi)) (fun c hc => (e1 389 _ (by first | decide | omega)).trans (x3 c hc)) y1 y2 y3 ((e1 396 0 (by first | decide | omega)).trans kl) hn (fun k hk => LRd_keep (hδ k hk).2.2 (fun j => e1 396 j (by first | decide | omega))) (fun k hk => (hδ k hk).1) hj hx
  have e : z2 = z1 := by
    by_cases c : x ≤ 2
    · rw [a1 c, b1 c]
    · rw [a2 c, b2 c]
  subst e
  exact ⟨_, _, _, r1, r2⟩
theorem zs_judged191_329 {n x nl O D K : Nat} {t : en_H} (g0 : ai_HG ah_G t) (hP : SPk 191 t) (k12 : ai_hv t 0 12 = some (gx_r 329)) (kO : ai_hv t 389 0 = some (.inl O)) (kD : ai_hv t 389 1 = some (.inl D)) (kK : ai_hv t 389 4 = some (.inl K)) (hn : nl ≤ 24) (kn : ai_hv t 329 5 = some (.inl nl)) (kl : ai_hv t 396 0 = some (.inl nl)) (hk : ∀ k, k < nl → LK t 329 K O D k) (hx : x < 4294967296) : zs_A 52 53 [gx_r 0, .inl x] [gx_r 383, .inl x] t n := by
  obtain ⟨k10, w, L, hR, hC, hX⟩ := hP
  have eO := wv_one kO (hR.1 0 (by decide))
  have eD := wv_one kD (hR.1 1 (by decide))
  have eK := wv_one kK (hR.1 4 (by decide))
  subst eO eD eK
  have hw := WS_of hR
  have hT := hw.1.2.2.1
  have hK2 := hw.1.2.2.2.2.1
  have hdat : ∀ k, ∃ d : Nat × Nat × Nat, k < nl → dok w d ∧ (ai_hv t (329 + 2) k = some (.inl d.1) ∧ ai_hv t (329 + 3) k = some (.inl d.2.1) ∧ ai_hv t (329 + 4) k = some (.inl d.2.2)) ∧ LRd t w d (1 + 4 * k) := fun k => by
    by_cases c : k < nl
    · obtain ⟨d, h⟩ := LK_data hw (hk k c)
      exact ⟨d, fun _ => h⟩
    · exact ⟨(0, 0, 0), fun z => absurd z c⟩
  obtain ⟨δ, hδ⟩ : ∃ δ : Nat → Nat × Nat × Nat, ∀ k, k < nl → dok w (δ k) ∧ (ai_hv t (329 + 2) k = some (.inl (δ k).1) ∧ ai_hv t (329 + 3) k = some (.inl (δ k).2.1) ∧ ai_hv t (329 + 4) k = some (.inl (δ k).2.2)) ∧ LRd t w (δ k) (1 + 4 * k) := ⟨fun k => Classical.choose (hdat k), fun k hk => Classical.choose_spec (hdat k) hk⟩
  obtain ⟨X, Y, B, x1, x2, x3, y1, y2, y3⟩ := pe_XYB g0
  have e6 : ∀ i, i < w 0 2 → w 6 i = X i + 8 * Y i := fun i hi => by
    obtain ⟨-, -, x, y, q1, q2, -, -, e⟩ := hR.2.2.2.2.1 i hi
    rw [e, wv_one q1 (x1 i (by first | decide | omega)), wv_one q2 (x2 i (by first | decide | omega))]
  have e4 : ∀ c, c < w 0 4 → w 4 c = B c := fun c hc => by
    obtain ⟨-, -, -, -, q1, -⟩ := hR.2.2.2.1 c hc
    exact wv_one q1 (x3 c (by first | decide | omega))
  have hj := bg_jbd y1 y2 y3
  obtain ⟨_, r1, z1, t1, rfl, g1, e1, a1, a2⟩ := sc_judged191_329 54 n (σ := bg0 X Y B) (δ := δ) (nl := nl) g0 hC hw hX k10 k12 kn hn (fun k hk => (hδ k hk).2.1) (fun k hk => (hδ k hk).1) hj rfl (fun i hi => by rw [bg_pl (by first | decide | omega), e6 i hi]) (fun c hc => by rw [bg_bi (by first | decide | omega), e4 c hc]) (fun j hj => bg_z hj) hx
  obtain ⟨_, r2, z2, t2, rfl, b1, b2⟩ := sr_judged 53 n (δ := δ) (nl := nl) g1 (RW_keep hR (fun i hi => e1 389 i (by first | decide | omega)) (fun c i hc _ => e1 c i (by first | decide | omega))) (fun i hi => (e1 389 _ (by first | decide | omega)).trans (x1 i hi)) (fun i hi => (e1 389 _ (by first | decide | omega)).trans (x2 i hi)) (fun c hc => (e1 389 _ (by first | decide | omega)).trans (x3 c hc)) y1 y2 y3 ((e1 396 0 (by first | decide | omega)).trans kl) hn (fun k hk => LRd_keep (hδ k hk).2.2 (fun j => e1 396 j (by first | decide | omega))) (fun k hk => (hδ k hk).1) hj hx
  have e : z2 = z1 := by
    by_cases c : x ≤ 2
    · rw [a1 c, b1 c]
    · rw [a2 c, b2 c]
  subst e
  exact ⟨_, _, _, r1, r2⟩
theorem zs_judged257_323 {n x nl O D K : Nat} {t : en_H} (g0 : ai_HG ah_G t) (hP : SPk 257 t) (k12 : ai_hv t 0 12 = some (gx_r 323)) (kO : ai_hv t 389 0 = some (.inl O)) (kD : ai_hv t 389 1 = some (.inl D)) (kK : ai_hv t 389 4 = some (.inl K)) (hn : nl ≤ 24) (kn : ai_hv t 323 5 = some (.inl nl)) (kl : ai_hv t 396 0 = some (.inl nl)) (hk : ∀ k, k < nl → LK t 323 K O D k) (hx : x < 4294967296) : zs_A 52 53 [gx_r 0, .inl x] [gx_r 383, .inl x] t n := by
  obtain ⟨k10, w, L, hR, hC, hX⟩ := hP
  have eO := wv_one kO (hR.1 0 (by decide))
  have eD := wv_one kD (hR.1 1 (by decide))
  have eK := wv_one kK (hR.1 4 (by decide))
  subst eO eD eK
  have hw := WS_of hR
  have hT := hw.1.2.2.1
  have hK2 := hw.1.2.2.2.2.1
  have hdat : ∀ k, ∃ d : Nat × Nat × Nat, k < nl → dok w d ∧ (ai_hv t (323 + 2) k = some (.inl d.1) ∧ ai_hv t (323 + 3) k = some (.inl d.2.1) ∧ ai_hv t (323 + 4) k = some (.inl d.2.2)) ∧ LRd t w d (1 + 4 * k) := fun k => by
    by_cases c : k < nl
    · obtain ⟨d, h⟩ := LK_data hw (hk k c)
      exact ⟨d, fun _ => h⟩
    · exact ⟨(0, 0, 0), fun z => absurd z c⟩
  obtain ⟨δ, hδ⟩ : ∃ δ : Nat → Nat × Nat × Nat, ∀ k, k < nl → dok w (δ k) ∧ (ai_hv t (323 + 2) k = some (.inl (δ k).1) ∧ ai_hv t (323 + 3) k = some (.inl (δ k).2.1) ∧ ai_hv t (323 + 4) k = some (.inl (δ k).2.2)) ∧ LRd t w (δ k) (1 + 4 * k) := ⟨fun k => Classical.choose (hdat k), fun k hk => Classical.choose_spec (hdat k) hk⟩
  obtain ⟨X, Y, B, x1, x2, x3, y1, y2, y3⟩ := pe_XYB g0
  have e6 : ∀ i, i < w 0 2 → w 6 i = X i + 8 * Y i := fun i hi => by
    obtain ⟨-, -, x, y, q1, q2, -, -, e⟩ := hR.2.2.2.2.1 i hi
    rw [e, wv_one q1 (x1 i (by first | decide | omega)), wv_one q2 (x2 i (by first | decide | omega))]
  have e4 : ∀ c, c < w 0 4 → w 4 c = B c := fun c hc => by
    obtain ⟨-, -, -, -, q1, -⟩ := hR.2.2.2.1 c hc
    exact wv_one q1 (x3 c (by first | decide | omega))
  have hj := bg_jbd y1 y2 y3
  obtain ⟨_, r1, z1, t1, rfl, g1, e1, a1, a2⟩ := sc_judged257_323 54 n (σ := bg0 X Y B) (δ := δ) (nl := nl) g0 hC hw hX k10 k12 kn hn (fun k hk => (hδ k hk).2.1) (fun k hk => (hδ k hk).1) hj rfl (fun i hi => by rw [bg_pl (by first | decide | omega), e6 i hi]) (fun c hc => by rw [bg_bi (by first | decide | omega), e4 c hc]) (fun j hj => bg_z hj) hx
  obtain ⟨_, r2, z2, t2, rfl, b1, b2⟩ := sr_judged 53 n (δ := δ) (nl := nl) g1 (RW_keep hR (fun i hi => e1 389 i (by first | decide | omega)) (fun c i hc _ => e1 c i (by first | decide | omega))) (fun i hi => (e1 389 _ (by first | decide | omega)).trans (x1 i hi)) (fun i hi => (e1 389 _ (by first | decide | omega)).trans (x2 i hi)) (fun c hc => (e1 389 _ (by first | decide | omega)).trans (x3 c hc)) y1 y2 y3 ((e1 396 0 (by first | decide | omega)).trans kl) hn (fun k hk => LRd_keep (hδ k hk).2.2 (fun j => e1 396 j (by first | decide | omega))) (fun k hk => (hδ k hk).1) hj hx
  have e : z2 = z1 := by
    by_cases c : x ≤ 2
    · rw [a1 c, b1 c]
    · rw [a2 c, b2 c]
  subst e
  exact ⟨_, _, _, r1, r2⟩
theorem zs_judged257_329 {n x nl O D K : Nat} {t : en_H} (g0 : ai_HG ah_G t) (hP : SPk 257 t) (k12 : ai_hv t 0 12 = some (gx_r 329)) (kO : ai_hv t 389 0 = some (.inl O)) (kD : ai_hv t 389 1 = some (.inl D)) (kK : ai_hv t 389 4 = some (.inl K)) (hn : nl ≤ 24) (kn : ai_hv t 329 5 = some (.inl nl)) (kl : ai_hv t 396 0 = some (.inl nl)) (hk : ∀ k, k < nl → LK t 329 K O D k) (hx : x < 4294967296) : zs_A 52 53 [gx_r 0, .inl x] [gx_r 383, .inl x] t n := by
  obtain ⟨k10, w, L, hR, hC, hX⟩ := hP
  have eO := wv_one kO (hR.1 0 (by decide))
  have eD := wv_one kD (hR.1 1 (by decide))
  have eK := wv_one kK (hR.1 4 (by decide))
  subst eO eD eK
  have hw := WS_of hR
  have hT := hw.1.2.2.1
  have hK2 := hw.1.2.2.2.2.1
  have hdat : ∀ k, ∃ d : Nat × Nat × Nat, k < nl → dok w d ∧ (ai_hv t (329 + 2) k = some (.inl d.1) ∧ ai_hv t (329 + 3) k = some (.inl d.2.1) ∧ ai_hv t (329 + 4) k = some (.inl d.2.2)) ∧ LRd t w d (1 + 4 * k) := fun k => by
    by_cases c : k < nl
    · obtain ⟨d, h⟩ := LK_data hw (hk k c)
      exact ⟨d, fun _ => h⟩
    · exact ⟨(0, 0, 0), fun z => absurd z c⟩
  obtain ⟨δ, hδ⟩ : ∃ δ : Nat → Nat × Nat × Nat, ∀ k, k < nl → dok w (δ k) ∧ (ai_hv t (329 + 2) k = some (.inl (δ k).1) ∧ ai_hv t (329 + 3) k = some (.inl (δ k).2.1) ∧ ai_hv t (329 + 4) k = some (.inl (δ k).2.2)) ∧ LRd t w (δ k) (1 + 4 * k) := ⟨fun k => Classical.choose (hdat k), fun k hk => Classical.choose_spec (hdat k) hk⟩
  obtain ⟨X, Y, B, x1, x2, x3, y1, y2, y3⟩ := pe_XYB g0
  have e6 : ∀ i, i < w 0 2 → w 6 i = X i + 8 * Y i := fun i hi => by
    obtain ⟨-, -, x, y, q1, q2, -, -, e⟩ := hR.2.2.2.2.1 i hi
    rw [e, wv_one q1 (x1 i (by first | decide | omega)), wv_one q2 (x2 i (by first | decide | omega))]
  have e4 : ∀ c, c < w 0 4 → w 4 c = B c := fun c hc => by
    obtain ⟨-, -, -, -, q1, -⟩ := hR.2.2.2.1 c hc
    exact wv_one q1 (x3 c (by first | decide | omega))
  have hj := bg_jbd y1 y2 y3
  obtain ⟨_, r1, z1, t1, rfl, g1, e1, a1, a2⟩ := sc_judged257_329 54 n (σ := bg0 X Y B) (δ := δ) (nl := nl) g0 hC hw hX k10 k12 kn hn (fun k hk => (hδ k hk).2.1) (fun k hk => (hδ k hk).1) hj rfl (fun i hi => by rw [bg_pl (by first | decide | omega), e6 i hi]) (fun c hc => by rw [bg_bi (by first | decide | omega), e4 c hc]) (fun j hj => bg_z hj) hx
  obtain ⟨_, r2, z2, t2, rfl, b1, b2⟩ := sr_judged 53 n (δ := δ) (nl := nl) g1 (RW_keep hR (fun i hi => e1 389 i (by first | decide | omega)) (fun c i hc _ => e1 c i (by first | decide | omega))) (fun i hi => (e1 389 _ (by first | decide | omega)).trans (x1 i hi)) (fun i hi => (e1 389 _ (by first | decide | omega)).trans (x2 i hi)) (fun c hc => (e1 389 _ (by first | decide | omega)).trans (x3 c hc)) y1 y2 y3 ((e1 396 0 (by first | decide | omega)).trans kl) hn (fun k hk => LRd_keep (hδ k hk).2.2 (fun j => e1 396 j (by first | decide | omega))) (fun k hk => (hδ k hk).1) hj hx
  have e : z2 = z1 := by
    by_cases c : x ≤ 2
    · rw [a1 c, b1 c]
    · rw [a2 c, b2 c]
  subst e
  exact ⟨_, _, _, r1, r2⟩
end SSJ
