section SSE
/-- all that stands, as the reference keeps it -/
noncomputable def RS (t : en_H) (σ : Nat → Nat) (u : Nat) (τ : Nat → Nat → Nat) (F : Nat → Nat) (μ : Nat → Nat → Nat) (q : Nat) (v : Nat → Nat) : Prop := blk t 0 σ ∧ ai_hv t 399 17 = some (.inl q) ∧ (ai_hv t 383 26 = some (.inl u) ∧ ∀ k, k < u → blk t (45 * (5 + k)) (τ k)) ∧ ∀ m, m < 4 → ai_hv t 400 m = some (.inl (F m)) ∧ (F m = 1 → blk t (45 * (1 + m)) (μ m) ∧ ai_hv t 399 (45 * (1 + m) + 17) = some (.inl (v m)))
/-- .. as the class keeps it -/
noncomputable def CS (t : en_H) (T K : Nat) (σ : Nat → Nat) (u : Nat) (τ : Nat → Nat → Nat) (F : Nat → Nat) (μ : Nat → Nat → Nat) (q : Nat) (v : Nat → Nat) : Prop := SC t 8 T K σ ∧ ai_hv t 139 0 = some (.inl q) ∧ (∃ o, o ≤ 15 ∧ ai_hv t 22 1 = some (.inl o) ∧ ai_hv t 22 2 = some (.inl u) ∧ ∀ k, k < u → SC t (24 + 7 * ((o + k) % 16)) T K (τ k)) ∧ ∀ m, m < 4 → ai_hv t 138 m = some (.inl (F m)) ∧ (F m = 1 → SC t (335 + 12 * m) T K (μ m) ∧ ai_hv t (342 + 12 * m) 0 = some (.inl (v m)))
noncomputable def RSC (c i : Nat) : Prop := (c = 399 ∧ i < 945) ∨ (c = 383 ∧ i = 26) ∨ c = 400
noncomputable def CSC (c i : Nat) : Prop := (8 ≤ c ∧ c ≤ 14) ∨ (c = 139 ∧ i = 0) ∨ (c = 22 ∧ 1 ≤ i) ∨ (24 ≤ c ∧ c ≤ 135) ∨ c = 138 ∨ (335 ≤ c ∧ c ≤ 341) ∨ (347 ≤ c ∧ c ≤ 353) ∨ (359 ≤ c ∧ c ≤ 365) ∨ (371 ≤ c ∧ c ≤ 377) ∨ ((c = 342 ∨ c = 354 ∨ c = 366 ∨ c = 378) ∧ i = 0)
section
variable {t t' : en_H} {T K u q : Nat} {σ F v : Nat → Nat} {τ μ : Nat → Nat → Nat}
theorem RS_keep (h : RS t σ u τ F μ q v) (hu : u ≤ 16) (e : ∀ c i, RSC c i → ai_hv t' c i = ai_hv t c i) : RS t' σ u τ F μ q v := by
  obtain ⟨h1, h2, ⟨h3, h4⟩, h5⟩ := h
  refine ⟨blk_keep h1 (fun j hj => e _ _ (by unfold RSC; omega)), (e _ _ (by unfold RSC; omega)).trans h2, ⟨(e _ _ (by unfold RSC; omega)).trans h3, fun k hk => blk_keep (h4 k hk) (fun j hj => e _ _ (by unfold RSC; omega))⟩, fun m hm => ⟨(e _ _ (by unfold RSC; omega)).trans (h5 m hm).1, fun z => ⟨blk_keep ((h5 m hm).2 z).1 (fun j hj => e _ _ (by unfold RSC; omega)), (e _ _ (by unfold RSC; omega)).trans ((h5 m hm).2 z).2⟩⟩⟩
theorem csc_m {m c i : Nat} (hm : m < 4) (h1 : 335 + 12 * m ≤ c) (h2 : c ≤ 335 + 12 * m + 6) : CSC c i := by unfold CSC; omega
theorem csc_n {m : Nat} (hm : m < 4) : CSC (342 + 12 * m) 0 := by unfold CSC; omega
theorem CS_keep (h : CS t T K σ u τ F μ q v) (e : ∀ c i, CSC c i → ai_hv t' c i = ai_hv t c i) : CS t' T K σ u τ F μ q v := by
  obtain ⟨h1, h2, ⟨o, h3, h4, h5, h6⟩, h7⟩ := h
  refine ⟨SC_keep h1 (fun c i a b => e _ _ (by unfold CSC; omega)), (e _ _ (by unfold CSC; omega)).trans h2, ⟨o, h3, (e _ _ (by unfold CSC; omega)).trans h4, (e _ _ (by unfold CSC; omega)).trans h5, fun k hk => SC_keep (h6 k hk) (fun c i a b => e _ _ (by unfold CSC; omega))⟩, fun m hm => ⟨(e _ _ (by unfold CSC; omega)).trans (h7 m hm).1, fun z => ⟨SC_keep ((h7 m hm).2 z).1 (fun c i a b => e _ _ (csc_m hm a b)), (e _ _ (csc_n hm)).trans ((h7 m hm).2 z).2⟩⟩⟩
/-- no step is farther than B -/
noncomputable def ZB (B : Nat) (σ : Nat → Nat) (u : Nat) (τ : Nat → Nat → Nat) (F : Nat → Nat) (μ : Nat → Nat → Nat) : Prop := u ≤ 16 ∧ σ 0 ≤ B ∧ (∀ k, k < u → τ k 0 ≤ B) ∧ ∀ m, m < 4 → F m = 1 → μ m 0 ≤ B
theorem ZB_mono {B B' : Nat} (h : ZB B σ u τ F μ) (hB : B ≤ B') : ZB B' σ u τ F μ := ⟨h.1, Nat.le_trans h.2.1 hB, fun k hk => Nat.le_trans (h.2.2.1 k hk) hB, fun m hm z => Nat.le_trans (h.2.2.2 m hm z) hB⟩
theorem kpu_le {u : Nat} : kpu u ≤ 16 := by unfold kpu; split <;> omega
theorem ZB_kp {B : Nat} {σ' : Nat → Nat} (h : ZB B σ u τ F μ) (h' : σ' 0 ≤ B) : ZB B σ' (kpu u) (kpt u σ τ) F μ := by
  refine ⟨kpu_le, h', fun k hk => ?_, h.2.2.2⟩
  unfold kpu at hk
  unfold kpt
  by_cases c : u < 16
  · rw [if_pos c] at hk ⊢
    by_cases c2 : k = u
    · rw [if_pos c2]; exact h.2.1
    · rw [if_neg c2]; exact h.2.2.1 k (by first | decide | omega)
  · rw [if_neg c] at hk ⊢
    have := h.1
    by_cases c2 : k = 15
    · rw [if_pos c2]; exact h.2.1
    · rw [if_neg c2]; exact h.2.2.1 (k + 1) (by first | decide | omega)
/-- many steps -/
noncomputable def itp (w : Nat → Nat → Nat) (L : List Nat) : Nat → (Nat → Nat) → Nat → Nat
  | 0, σ => σ
  | k + 1, σ => stp w L (itp w L k σ)
theorem itp_0 {w : Nat → Nat → Nat} {L : List Nat} {B : Nat} (h : σ 0 ≤ B) (hB : B < 1000000) : ∀ k, k ≤ 30 → itp w L k σ 0 = σ 0 + k
  | 0, _ => rfl
  | k + 1, hk => by
    show stp w L (itp w L k σ) 0 = _
    rw [stp_0, itp_0 h hB k (by first | decide | omega)]
    unfold en_wrap
    omega
theorem sbd_itp {w : Nat → Nat → Nat} {L : List Nat} (hw : WS w) (h : sbd σ) : ∀ k, sbd (itp w L k σ)
  | 0 => h
  | k + 1 => sbd_stp hw (sbd_itp hw h k)
end
theorem sr_drift_l (d n : Nat) {tb : en_H} {w : Nat → Nat → Nat} {L : List Nat} {σ : Nat → Nat} {x : Nat} {Q : en_O → Prop} (hR : RW tb w L) (hx : x ≤ 30) (hQ : ∀ cl t1, ai_HG ah_G t1 → (∀ c i, ¬ ((c = 399 ∧ i < 17) ∨ (c = 397 ∧ i < 3) ∨ c = 398) → ai_hv t1 c i = ai_hv tb c i) → blk t1 0 (itp w L x σ) → en_ld cl 0 = some (gx_r 383) → en_ld cl 1 = some (.inl x) → en_ex none (en_u (d + 5)) (en_code 43) (fun _ => false) (40, cl, [], t1, n, 0) Q) : ∀ j k cl t0, k + j = x → ai_HG ah_G t0 → (∀ c i, ¬ ((c = 399 ∧ i < 17) ∨ (c = 397 ∧ i < 3) ∨ c = 398) → ai_hv t0 c i = ai_hv tb c i) → blk t0 0 (itp w L k σ) → en_ld cl 0 = some (gx_r 383) → en_ld cl 1 = some (.inl x) → en_ld cl 2 = some (.inl k) → en_ex none (en_u (d + 5)) (en_code 43) (fun _ => false) (23, cl, [], t0, n, 0) Q := by
  intro j
  induction j with
  | zero =>
    intro k cl t0 hk g0 e0 i0 l0 l1 l2
    have hk : k = x := by omega
    rw [hk] at i0 l2
    refine gx_ld (i := 2) (d := 0) (v := .inl x) rfl (fun _ => rfl) l2 rfl rfl ?_
    refine gx_ld (i := 1) (d := 0) (v := .inl x) rfl (fun _ => rfl) l1 rfl rfl ?_
    refine gx_2t (c := .ge) rfl (by first | decide | omega) (by first | decide | omega) (show x ≤ x from by omega) rfl ?_
    exact hQ _ t0 g0 e0 i0 l0 l1
  | succ j ih =>
    intro k cl t0 hk g0 e0 i0 l0 l1 l2
    refine gx_ld (i := 2) (d := 0) (v := .inl k) rfl (fun _ => rfl) l2 rfl rfl ?_
    refine gx_ld (i := 1) (d := 0) (v := .inl x) rfl (fun _ => rfl) l1 rfl rfl ?_
    refine gx_2f (c := .ge) rfl (by first | decide | omega) (by first | decide | omega) (show ¬ (x ≤ k) from by omega) rfl ?_
    refine gx_ld (i := 0) (d := 2) (v := gx_r 383) rfl (fun _ => rfl) l0 rfl rfl ?_
    refine ex_go (S := (30, cl, [.inl 0, gx_r 383], t0, n, 0)) rfl (fun _ => rfl) rfl ?_
    obtain ⟨_, r121, t121, rfl, g121, e121, y121⟩ := sr_passes0 d n (σ := itp w L k σ) g0 (RW_keep hR (fun i hi => e0 389 i (by first | decide | omega)) (fun c i hc _ => e0 c i (by first | decide | omega))) i0
    refine gx_call1 rfl rfl g0 rfl rfl r121 rfl ?_
    show en_ex _ _ _ _ (33, cl, [.inl (eaten w L (itp w L k σ))], t121, n, 0) _
    refine gs_pop rfl rfl rfl ?_
    refine gx_incS (i := 2) (a := k) (x := 1) rfl (fun _ => rfl) l2 (by first | decide | omega) rfl (fun l22 hl22 ml22 => ?_)
    have l22_0 : en_ld l22 0 = some (gx_r 383) := ml22 0 _ l0 rfl
    have l22_1 : en_ld l22 1 = some (.inl x) := ml22 1 _ l1 rfl
    refine ex_go (S := (23, l22, [], t121, n, 0)) rfl (fun _ => rfl) rfl ?_
    exact ih (k + 1) _ t121 (by first | decide | omega) g121 (fun c i h => (e121 c i (by first | decide | omega)).trans (e0 c i h)) y121 l22_0 l22_1 hl22
theorem sr_drift (d n : Nat) {t0 : en_H} {w : Nat → Nat → Nat} {L : List Nat} {σ F v : Nat → Nat} {τ μ : Nat → Nat → Nat} {x u q : Nat} (g0 : ai_HG ah_G t0) (hR : RW t0 w L) (hS : RS t0 σ u τ F μ q v) (hu : u ≤ 16) (hx : x < 4294967296) (h0 : σ 0 < 2147483000) : ∃ r, en_u (d + 6) 43 [gx_r 383, .inl x] t0 n = some r ∧ ∃ y t', r = (some (.inl y), t', n, 0) ∧ ai_HG ah_G t' ∧ (∀ c i, ¬ ((c = 399 ∧ i < 945) ∨ (c = 383 ∧ (i = 0 ∨ i = 26)) ∨ (c = 397 ∧ i < 3) ∨ c = 398) → ai_hv t' c i = ai_hv t0 c i) ∧ (¬ (1 ≤ x ∧ x ≤ 30) → y = 4294967295 ∧ RS t' σ u τ F μ q v) ∧ (1 ≤ x ∧ x ≤ 30 → y = itp w L x σ 0 ∧ RS t' (itp w L x σ) (kpu u) (kpt u σ τ) F μ q v) := by
  obtain ⟨hb, hq, ⟨ku, hτ⟩, hm⟩ := hS
  refine en_u_ex (d := d + 5) rfl ?_
  show en_ex _ _ _ _ (0, [(0, gx_r 383), (1, .inl x)], [], t0, n, 0) _
  refine ex_go (S := (1, [(0, gx_r 383), (1, .inl x)], [gx_r 383], t0, n, 0)) rfl (fun _ => rfl) rfl ?_
  refine ex_go (S := (2, [(0, gx_r 383), (1, .inl x)], [.inl 0, gx_r 383], t0, n, 0)) rfl (fun _ => rfl) rfl ?_
  refine gx_put rfl g0 rfl rfl (ai_in_h (by first | decide | omega) (by first | decide | omega) (by first | decide | omega)) rfl (fun t121 g121 k121 e121 => ?_)
  refine ex_go (S := (6, [(0, gx_r 383), (1, .inl x)], [.inl x], t121, n, 0)) rfl (fun _ => rfl) rfl ?_
  refine ex_go (S := (7, [(0, gx_r 383), (1, .inl x)], [.inl 1, .inl x], t121, n, 0)) rfl (fun _ => rfl) rfl ?_
  refine ex_go (S := (9, [(0, gx_r 383), (1, .inl x)], [.inl 30, .inl 1, .inl x], t121, n, 0)) rfl (fun _ => rfl) rfl ?_
  obtain ⟨_, r22, b23, rfl, b23b, q24⟩ := pz_within (d + 4) n (t0 := t121) (x := x) (lo := 1) (hi := 30) (by first | decide | omega) (by first | decide | omega) (by first | decide | omega)
  refine ex_stat rfl rfl rfl rfl rfl r22 (Nat.le_refl _) rfl ?_
  show en_ex _ _ _ _ (12, [(0, gx_r 383), (1, .inl x)], [.inl b23], t121, n, 0) _
  by_cases hc25 : b23 ≠ 0
  · refine gx_1t (c := .ne) rfl (by first | decide | omega) hc25 rfl ?_
    refine ex_go (S := (18, [(0, gx_r 383), (1, .inl x)], [gx_r 383], t121, n, 0)) rfl (fun _ => rfl) rfl ?_
    obtain ⟨_, r126, t126, rfl, g126, e126, k126a, k126b⟩ := sr_keeps (d + 3) n (u := u) (σ := σ) (τ := τ) g121 hu ((e121 383 26 (by first | decide | omega)).trans (ku)) (blk_keep hb (fun j hj => e121 399 _ (by first | decide | omega))) (fun k hk => blk_keep (hτ k hk) (fun j hj => e121 399 _ (by first | decide | omega)))
    refine gx_call0 rfl rfl g121 rfl rfl r126 rfl ?_
    have k27 : ai_hv t126 383 0 = some (.inl 0) := (e126 383 0 (by first | decide | omega)).trans k121
    show en_ex _ _ _ _ (21, [(0, gx_r 383), (1, .inl x)], [], t126, n, 0) _
    refine ex_go (S := (22, [(0, gx_r 383), (1, .inl x)], [.inl 0], t126, n, 0)) rfl (fun _ => rfl) rfl ?_
    refine ex_go (S := (23, [(2, .inl 0), (0, gx_r 383), (1, .inl x)], [], t126, n, 0)) rfl (fun _ => rfl) rfl ?_
    refine sr_drift_l d n (tb := t126) (σ := σ) (x := x) (RW_keep hR (fun i hi => (e126 389 i (by first | decide | omega)).trans (e121 389 i (by first | decide | omega))) (fun c i hc _ => (e126 c i (by first | decide | omega)).trans (e121 c i (by first | decide | omega)))) (by first | decide | omega) (fun cl128 t128 g128 e128 i128 l1280 l1281 => ?_) x 0 _ _ (by first | decide | omega) g126 (fun _ _ _ => rfl) (blk_keep hb (fun j hj => (e126 399 _ (by first | decide | omega)).trans (e121 399 _ (by first | decide | omega)))) rfl rfl rfl
    have k29 : ai_hv t128 383 0 = some (.inl 0) := (e128 383 0 (by first | decide | omega)).trans k27
    have h128 : ai_hv t128 399 0 = some (.inl (itp w L x σ 0)) := i128 0 (by decide)
    refine gx_ld (i := 0) (d := 2) (v := gx_r 383) rfl (fun _ => rfl) l1280 rfl rfl ?_
    refine gx_ref (c := 399) rfl g128 rfl rfl rfl rfl ?_
    refine ex_go (S := (45, cl128, [.inl 0, gx_r 399], t128, n, 0)) rfl (fun _ => rfl) rfl ?_
    refine gx_ag (v := .inl (itp w L x σ 0)) (cb := fun c => Nat.beq c 0) rfl (fun _ => rfl) g128 rfl rfl h128 (by first | decide | omega) rfl ?_
    refine ex_ret (r := (some (.inl (itp w L x σ 0)), t128, n, 0)) rfl (fun _ => rfl) ?_
    exact ⟨_, rfl, _, t128, rfl, g128, (fun c i h => (e128 c i (by first | decide | omega)).trans ((e126 c i (by first | decide | omega)).trans (e121 c i (by first | decide | omega)))), (fun z => absurd (by first | decide | omega) z), fun _ => ⟨rfl, i128, (e128 399 17 (by first | decide | omega)).trans ((e126 399 17 (by first | decide | omega)).trans ((e121 399 17 (by first | decide | omega)).trans (hq))), ⟨(e128 383 26 (by first | decide | omega)).trans (k126a), fun k hk => blk_keep (k126b k hk) (fun j hj => (e128 399 _ (by first | decide | omega)))⟩, fun m hm9 => ⟨(e128 400 m (by first | decide | omega)).trans ((e126 400 m (by first | decide | omega)).trans ((e121 400 m (by first | decide | omega)).trans ((hm m hm9).1))), fun z => ⟨blk_keep ((hm m hm9).2 z).1 (fun j hj => (e128 399 _ (by first | decide | omega)).trans ((e126 399 _ (by first | decide | omega)).trans (e121 399 _ (by first | decide | omega)))), ((e128 399 _ (by first | decide | omega)).trans ((e126 399 _ (by first | decide | omega)).trans (e121 399 _ (by first | decide | omega)))).trans ((hm m hm9).2 z).2⟩⟩⟩⟩
  · refine gx_1f (c := .ne) rfl (by first | decide | omega) hc25 rfl ?_
    refine ex_go (S := (16, [(0, gx_r 383), (1, .inl x)], [.inl 4294967295], t121, n, 0)) rfl (fun _ => rfl) rfl ?_
    refine ex_ret (r := (some (.inl 4294967295), t121, n, 0)) rfl (fun _ => rfl) ?_
    exact ⟨_, rfl, _, t121, rfl, g121, (fun c i h => e121 c i (by first | decide | omega)), (fun _ => ⟨rfl, RS_keep ⟨hb, hq, ⟨ku, hτ⟩, hm⟩ hu (fun c i h => by unfold RSC at h; exact e121 c i (by first | decide | omega))⟩), fun z => absurd z (by first | decide | omega)⟩
end SSE
