section SSO
noncomputable def up1 {α : Type} (f : Nat → α) (m : Nat) (x : α) : Nat → α := fun k => if k = m then x else f k
theorem up1_t {α : Type} {f : Nat → α} {m : Nat} {x : α} : up1 f m x m = x := if_pos rfl
theorem up1_f {α : Type} {f : Nat → α} {m k : Nat} {x : α} (h : k ≠ m) : up1 f m x k = f k := if_neg h
theorem sk_l342_139 (d n : Nat) {tb : en_H} {Q : en_O → Prop} (hQ : ∀ t1, ai_HG ah_G t1 → (∀ c i, ¬ (343 ≤ c ∧ c ≤ 345) → ai_hv t1 c i = ai_hv tb c i) → en_ex none (en_u d) (en_code 170) (fun _ => false) (58, [(2, .inl 8), (0, gx_r 342), (1, gx_r 139)], [], t1, n, 0) Q) : ∀ j k t0, k + j = 8 → ai_HG ah_G t0 → (∀ c i, ¬ (343 ≤ c ∧ c ≤ 345) → ai_hv t0 c i = ai_hv tb c i) → en_ex none (en_u d) (en_code 170) (fun _ => false) (10, [(2, .inl k), (0, gx_r 342), (1, gx_r 139)], [], t0, n, 0) Q := by
  intro j
  induction j with
  | zero =>
    intro k t0 hk g0 e0
    have hk : k = 8 := by omega
    subst hk
    refine ex_go (S := (11, [(2, .inl 8), (0, gx_r 342), (1, gx_r 139)], [.inl 8], t0, n, 0)) rfl (fun _ => rfl) rfl ?_
    refine ex_go (S := (13, [(2, .inl 8), (0, gx_r 342), (1, gx_r 139)], [.inl 8, .inl 8], t0, n, 0)) rfl (fun _ => rfl) rfl ?_
    refine ex_go (S := (58, [(2, .inl 8), (0, gx_r 342), (1, gx_r 139)], [], t0, n, 0)) rfl (fun _ => rfl) rfl ?_
    exact hQ t0 g0 e0
  | succ j ih =>
    intro k t0 hk g0 e0
    refine ex_go (S := (11, [(2, .inl k), (0, gx_r 342), (1, gx_r 139)], [.inl k], t0, n, 0)) rfl (fun _ => rfl) rfl ?_
    refine ex_go (S := (13, [(2, .inl k), (0, gx_r 342), (1, gx_r 139)], [.inl 8, .inl k], t0, n, 0)) rfl (fun _ => rfl) rfl ?_
    refine gx_2f (c := .ge) rfl (by first | decide | omega) (by first | decide | omega) (show ¬ (8 ≤ k) from by omega) rfl ?_
    refine ex_go (S := (17, [(2, .inl k), (0, gx_r 342), (1, gx_r 139)], [gx_r 342], t0, n, 0)) rfl (fun _ => rfl) rfl ?_
    refine gxo_ref (a := 342) (c := 343) rfl g0 rfl rfl rfl rfl rfl ?_
    refine ex_go (S := (21, [(2, .inl k), (0, gx_r 342), (1, gx_r 139)], [.inl k, gx_r 343], t0, n, 0)) rfl (fun _ => rfl) rfl ?_
    refine ex_go (S := (22, [(2, .inl k), (0, gx_r 342), (1, gx_r 139)], [gx_r 139, .inl k, gx_r 343], t0, n, 0)) rfl (fun _ => rfl) rfl ?_
    refine gxo_ref (a := 139) (c := 140) rfl g0 rfl rfl rfl rfl rfl ?_
    refine ex_go (S := (26, [(2, .inl k), (0, gx_r 342), (1, gx_r 139)], [.inl k, gx_r 140, .inl k, gx_r 343], t0, n, 0)) rfl (fun _ => rfl) rfl ?_
    obtain ⟨m21, k22, m21a, m21b, m21c⟩ := st_ld (c := 140) (i := k) g0 rfl (by first | decide | omega)
    refine gx_ag (v := .inl m21) (cb := fun c => Nat.beq c 0) rfl (fun _ => rfl) g0 rfl rfl k22 (by first | decide | omega) rfl ?_
    refine gx_ap rfl (fun _ => rfl) g0 rfl rfl rfl (show k < 8 by omega) (gx_run1 (show k < 8 by omega)) (st_rh m21a m21b m21c) rfl (fun t123 g123 k123 e123 => ?_)
    refine ex_go (S := (29, [(2, .inl k), (0, gx_r 342), (1, gx_r 139)], [gx_r 342], t123, n, 0)) rfl (fun _ => rfl) rfl ?_
    refine gxo_ref (a := 342) (c := 344) rfl g123 rfl rfl rfl rfl rfl ?_
    refine ex_go (S := (33, [(2, .inl k), (0, gx_r 342), (1, gx_r 139)], [.inl k, gx_r 344], t123, n, 0)) rfl (fun _ => rfl) rfl ?_
    refine ex_go (S := (34, [(2, .inl k), (0, gx_r 342), (1, gx_r 139)], [gx_r 139, .inl k, gx_r 344], t123, n, 0)) rfl (fun _ => rfl) rfl ?_
    refine gxo_ref (a := 139) (c := 141) rfl g123 rfl rfl rfl rfl rfl ?_
    refine ex_go (S := (38, [(2, .inl k), (0, gx_r 342), (1, gx_r 139)], [.inl k, gx_r 141, .inl k, gx_r 344], t123, n, 0)) rfl (fun _ => rfl) rfl ?_
    obtain ⟨m24, k25, m24a, m24b, m24c⟩ := st_ld (c := 141) (i := k) g123 rfl (by first | decide | omega)
    refine gx_ag (v := .inl m24) (cb := fun c => Nat.beq c 0) rfl (fun _ => rfl) g123 rfl rfl k25 (by first | decide | omega) rfl ?_
    refine gx_ap rfl (fun _ => rfl) g123 rfl rfl rfl (show k < 8 by omega) (gx_run1 (show k < 8 by omega)) (st_rh m24a m24b m24c) rfl (fun t126 g126 k126 e126 => ?_)
    refine ex_go (S := (41, [(2, .inl k), (0, gx_r 342), (1, gx_r 139)], [gx_r 342], t126, n, 0)) rfl (fun _ => rfl) rfl ?_
    refine gxo_ref (a := 342) (c := 345) rfl g126 rfl rfl rfl rfl rfl ?_
    refine ex_go (S := (45, [(2, .inl k), (0, gx_r 342), (1, gx_r 139)], [.inl k, gx_r 345], t126, n, 0)) rfl (fun _ => rfl) rfl ?_
    refine ex_go (S := (46, [(2, .inl k), (0, gx_r 342), (1, gx_r 139)], [gx_r 139, .inl k, gx_r 345], t126, n, 0)) rfl (fun _ => rfl) rfl ?_
    refine gxo_ref (a := 139) (c := 142) rfl g126 rfl rfl rfl rfl rfl ?_
    refine ex_go (S := (50, [(2, .inl k), (0, gx_r 342), (1, gx_r 139)], [.inl k, gx_r 142, .inl k, gx_r 345], t126, n, 0)) rfl (fun _ => rfl) rfl ?_
    obtain ⟨m27, k28, m27a, m27b, m27c⟩ := st_ld (c := 142) (i := k) g126 rfl (by first | decide | omega)
    refine gx_ag (v := .inl m27) (cb := fun c => Nat.beq c 0) rfl (fun _ => rfl) g126 rfl rfl k28 (by first | decide | omega) rfl ?_
    refine gx_ap rfl (fun _ => rfl) g126 rfl rfl rfl (show k < 8 by omega) (gx_run1 (show k < 8 by omega)) (st_rh m27a m27b m27c) rfl (fun t129 g129 k129 e129 => ?_)
    refine gx_iinc (i := 2) (k := 1) rfl (fun _ => rfl) (by first | decide | omega) rfl ?_
    show en_ex _ _ _ _ (55, [(2, .inl (k + 1)), (0, gx_r 342), (1, gx_r 139)], [], t129, n, 0) _
    refine ex_go (S := (10, [(2, .inl (k + 1)), (0, gx_r 342), (1, gx_r 139)], [], t129, n, 0)) rfl (fun _ => rfl) rfl ?_
    exact ih (k + 1) t129 (by first | decide | omega) g129 (fun c i h => ((e129 c i (by first | decide | omega)).trans ((e126 c i (by first | decide | omega)).trans (e123 c i (by first | decide | omega)))).trans (e0 c i h))
theorem sk_342_139 (d n : Nat) {t0 : en_H} {q : Nat} (g0 : ai_HG ah_G t0) (kq : ai_hv t0 139 0 = some (.inl q)) (hq : q ≤ 8) : ∃ r, en_u (d + 1) 170 [gx_r 342, gx_r 139] t0 n = some r ∧ ∃ t', r = (none, t', n, 0) ∧ ai_HG ah_G t' ∧ (∀ c i, ¬ ((c = 342 ∧ i = 0) ∨ (343 ≤ c ∧ c ≤ 345)) → ai_hv t' c i = ai_hv t0 c i) ∧ ai_hv t' 342 0 = some (.inl q) := by
  refine en_u_ex rfl ?_
  show en_ex _ _ _ _ (0, [(0, gx_r 342), (1, gx_r 139)], [], t0, n, 0) _
  refine ex_go (S := (1, [(0, gx_r 342), (1, gx_r 139)], [gx_r 342], t0, n, 0)) rfl (fun _ => rfl) rfl ?_
  refine ex_go (S := (2, [(0, gx_r 342), (1, gx_r 139)], [gx_r 139, gx_r 342], t0, n, 0)) rfl (fun _ => rfl) rfl ?_
  refine gxo_get (a := 139) rfl g0 rfl rfl kq rfl ?_
  refine gxo_put (a := 342) rfl g0 rfl rfl rfl (ai_in_h (by first | decide | omega) (by first | decide | omega) (by first | decide | omega)) rfl (fun t121 g121 k121 e121 => ?_)
  have k22 : ai_hv t121 139 0 = some (.inl q) := (e121 139 0 (by first | decide | omega)).trans kq
  refine ex_go (S := (9, [(0, gx_r 342), (1, gx_r 139)], [.inl 0], t121, n, 0)) rfl (fun _ => rfl) rfl ?_
  refine ex_go (S := (10, [(2, .inl 0), (0, gx_r 342), (1, gx_r 139)], [], t121, n, 0)) rfl (fun _ => rfl) rfl ?_
  refine sk_l342_139 d n (tb := t121) (fun t123 g123 e123 => ?_) 8 0 _ rfl g121 (fun _ _ _ => rfl)
  have k24 : ai_hv t123 139 0 = some (.inl q) := (e123 139 0 (by first | decide | omega)).trans k22
  have k25 : ai_hv t123 342 0 = some (.inl q) := (e123 342 0 (by first | decide | omega)).trans k121
  refine ex_ret (r := (none, t123, n, 0)) rfl (fun _ => rfl) ?_
  exact ⟨_, rfl, t123, rfl, g123, (fun c i h => (e123 c i (by first | decide | omega)).trans (e121 c i (by first | decide | omega))), k25⟩
theorem sk_l139_342 (d n : Nat) {tb : en_H} {Q : en_O → Prop} (hQ : ∀ t1, ai_HG ah_G t1 → (∀ c i, ¬ (140 ≤ c ∧ c ≤ 142) → ai_hv t1 c i = ai_hv tb c i) → en_ex none (en_u d) (en_code 170) (fun _ => false) (58, [(2, .inl 8), (0, gx_r 139), (1, gx_r 342)], [], t1, n, 0) Q) : ∀ j k t0, k + j = 8 → ai_HG ah_G t0 → (∀ c i, ¬ (140 ≤ c ∧ c ≤ 142) → ai_hv t0 c i = ai_hv tb c i) → en_ex none (en_u d) (en_code 170) (fun _ => false) (10, [(2, .inl k), (0, gx_r 139), (1, gx_r 342)], [], t0, n, 0) Q := by
  intro j
  induction j with
  | zero =>
    intro k t0 hk g0 e0
    have hk : k = 8 := by omega
    subst hk
    refine ex_go (S := (11, [(2, .inl 8), (0, gx_r 139), (1, gx_r 342)], [.inl 8], t0, n, 0)) rfl (fun _ => rfl) rfl ?_
    refine ex_go (S := (13, [(2, .inl 8), (0, gx_r 139), (1, gx_r 342)], [.inl 8, .inl 8], t0, n, 0)) rfl (fun _ => rfl) rfl ?_
    refine ex_go (S := (58, [(2, .inl 8), (0, gx_r 139), (1, gx_r 342)], [], t0, n, 0)) rfl (fun _ => rfl) rfl ?_
    exact hQ t0 g0 e0
  | succ j ih =>
    intro k t0 hk g0 e0
    refine ex_go (S := (11, [(2, .inl k), (0, gx_r 139), (1, gx_r 342)], [.inl k], t0, n, 0)) rfl (fun _ => rfl) rfl ?_
    refine ex_go (S := (13, [(2, .inl k), (0, gx_r 139), (1, gx_r 342)], [.inl 8, .inl k], t0, n, 0)) rfl (fun _ => rfl) rfl ?_
    refine gx_2f (c := .ge) rfl (by first | decide | omega) (by first | decide | omega) (show ¬ (8 ≤ k) from by omega) rfl ?_
    refine ex_go (S := (17, [(2, .inl k), (0, gx_r 139), (1, gx_r 342)], [gx_r 139], t0, n, 0)) rfl (fun _ => rfl) rfl ?_
    refine gxo_ref (a := 139) (c := 140) rfl g0 rfl rfl rfl rfl rfl ?_
    refine ex_go (S := (21, [(2, .inl k), (0, gx_r 139), (1, gx_r 342)], [.inl k, gx_r 140], t0, n, 0)) rfl (fun _ => rfl) rfl ?_
    refine ex_go (S := (22, [(2, .inl k), (0, gx_r 139), (1, gx_r 342)], [gx_r 342, .inl k, gx_r 140], t0, n, 0)) rfl (fun _ => rfl) rfl ?_
    refine gxo_ref (a := 342) (c := 343) rfl g0 rfl rfl rfl rfl rfl ?_
    refine ex_go (S := (26, [(2, .inl k), (0, gx_r 139), (1, gx_r 342)], [.inl k, gx_r 343, .inl k, gx_r 140], t0, n, 0)) rfl (fun _ => rfl) rfl ?_
    obtain ⟨m21, k22, m21a, m21b, m21c⟩ := st_ld (c := 343) (i := k) g0 rfl (by first | decide | omega)
    refine gx_ag (v := .inl m21) (cb := fun c => Nat.beq c 0) rfl (fun _ => rfl) g0 rfl rfl k22 (by first | decide | omega) rfl ?_
    refine gx_ap rfl (fun _ => rfl) g0 rfl rfl rfl (show k < 8 by omega) (gx_run1 (show k < 8 by omega)) (st_rh m21a m21b m21c) rfl (fun t123 g123 k123 e123 => ?_)
    refine ex_go (S := (29, [(2, .inl k), (0, gx_r 139), (1, gx_r 342)], [gx_r 139], t123, n, 0)) rfl (fun _ => rfl) rfl ?_
    refine gxo_ref (a := 139) (c := 141) rfl g123 rfl rfl rfl rfl rfl ?_
    refine ex_go (S := (33, [(2, .inl k), (0, gx_r 139), (1, gx_r 342)], [.inl k, gx_r 141], t123, n, 0)) rfl (fun _ => rfl) rfl ?_
    refine ex_go (S := (34, [(2, .inl k), (0, gx_r 139), (1, gx_r 342)], [gx_r 342, .inl k, gx_r 141], t123, n, 0)) rfl (fun _ => rfl) rfl ?_
    refine gxo_ref (a := 342) (c := 344) rfl g123 rfl rfl rfl rfl rfl ?_
    refine ex_go (S := (38, [(2, .inl k), (0, gx_r 139), (1, gx_r 342)], [.inl k, gx_r 344, .inl k, gx_r 141], t123, n, 0)) rfl (fun _ => rfl) rfl ?_
    obtain ⟨m24, k25, m24a, m24b, m24c⟩ := st_ld (c := 344) (i := k) g123 rfl (by first | decide | omega)
    refine gx_ag (v := .inl m24) (cb := fun c => Nat.beq c 0) rfl (fun _ => rfl) g123 rfl rfl k25 (by first | decide | omega) rfl ?_
    refine gx_ap rfl (fun _ => rfl) g123 rfl rfl rfl (show k < 8 by omega) (gx_run1 (show k < 8 by omega)) (st_rh m24a m24b m24c) rfl (fun t126 g126 k126 e126 => ?_)
    refine ex_go (S := (41, [(2, .inl k), (0, gx_r 139), (1, gx_r 342)], [gx_r 139], t126, n, 0)) rfl (fun _ => rfl) rfl ?_
    refine gxo_ref (a := 139) (c := 142) rfl g126 rfl rfl rfl rfl rfl ?_
    refine ex_go (S := (45, [(2, .inl k), (0, gx_r 139), (1, gx_r 342)], [.inl k, gx_r 142], t126, n, 0)) rfl (fun _ => rfl) rfl ?_
    refine ex_go (S := (46, [(2, .inl k), (0, gx_r 139), (1, gx_r 342)], [gx_r 342, .inl k, gx_r 142], t126, n, 0)) rfl (fun _ => rfl) rfl ?_
    refine gxo_ref (a := 342) (c := 345) rfl g126 rfl rfl rfl rfl rfl ?_
    refine ex_go (S := (50, [(2, .inl k), (0, gx_r 139), (1, gx_r 342)], [.inl k, gx_r 345, .inl k, gx_r 142], t126, n, 0)) rfl (fun _ => rfl) rfl ?_
    obtain ⟨m27, k28, m27a, m27b, m27c⟩ := st_ld (c := 345) (i := k) g126 rfl (by first | decide | omega)
    refine gx_ag (v := .inl m27) (cb := fun c => Nat.beq c 0) rfl (fun _ => rfl) g126 rfl rfl k28 (by first | decide | omega) rfl ?_
    refine gx_ap rfl (fun _ => rfl) g126 rfl rfl rfl (show k < 8 by omega) (gx_run1 (show k < 8 by omega)) (st_rh m27a m27b m27c) rfl (fun t129 g129 k129 e129 => ?_)
    refine gx_iinc (i := 2) (k := 1) rfl (fun _ => rfl) (by first | decide | omega) rfl ?_
    show en_ex _ _ _ _ (55, [(2, .inl (k + 1)), (0, gx_r 139), (1, gx_r 342)], [], t129, n, 0) _
    refine ex_go (S := (10, [(2, .inl (k + 1)), (0, gx_r 139), (1, gx_r 342)], [], t129, n, 0)) rfl (fun _ => rfl) rfl ?_
    exact ih (k + 1) t129 (by first | decide | omega) g129 (fun c i h => ((e129 c i (by first | decide | omega)).trans ((e126 c i (by first | decide | omega)).trans (e123 c i (by first | decide | omega)))).trans (e0 c i h))
theorem sk_139_342 (d n : Nat) {t0 : en_H} {q : Nat} (g0 : ai_HG ah_G t0) (kq : ai_hv t0 342 0 = some (.inl q)) (hq : q ≤ 8) : ∃ r, en_u (d + 1) 170 [gx_r 139, gx_r 342] t0 n = some r ∧ ∃ t', r = (none, t', n, 0) ∧ ai_HG ah_G t' ∧ (∀ c i, ¬ ((c = 139 ∧ i = 0) ∨ (140 ≤ c ∧ c ≤ 142)) → ai_hv t' c i = ai_hv t0 c i) ∧ ai_hv t' 139 0 = some (.inl q) := by
  refine en_u_ex rfl ?_
  show en_ex _ _ _ _ (0, [(0, gx_r 139), (1, gx_r 342)], [], t0, n, 0) _
  refine ex_go (S := (1, [(0, gx_r 139), (1, gx_r 342)], [gx_r 139], t0, n, 0)) rfl (fun _ => rfl) rfl ?_
  refine ex_go (S := (2, [(0, gx_r 139), (1, gx_r 342)], [gx_r 342, gx_r 139], t0, n, 0)) rfl (fun _ => rfl) rfl ?_
  refine gxo_get (a := 342) rfl g0 rfl rfl kq rfl ?_
  refine gxo_put (a := 139) rfl g0 rfl rfl rfl (ai_in_h (by first | decide | omega) (by first | decide | omega) (by first | decide | omega)) rfl (fun t121 g121 k121 e121 => ?_)
  have k22 : ai_hv t121 342 0 = some (.inl q) := (e121 342 0 (by first | decide | omega)).trans kq
  refine ex_go (S := (9, [(0, gx_r 139), (1, gx_r 342)], [.inl 0], t121, n, 0)) rfl (fun _ => rfl) rfl ?_
  refine ex_go (S := (10, [(2, .inl 0), (0, gx_r 139), (1, gx_r 342)], [], t121, n, 0)) rfl (fun _ => rfl) rfl ?_
  refine sk_l139_342 d n (tb := t121) (fun t123 g123 e123 => ?_) 8 0 _ rfl g121 (fun _ _ _ => rfl)
  have k24 : ai_hv t123 342 0 = some (.inl q) := (e123 342 0 (by first | decide | omega)).trans k22
  have k25 : ai_hv t123 139 0 = some (.inl q) := (e123 139 0 (by first | decide | omega)).trans k121
  refine ex_ret (r := (none, t123, n, 0)) rfl (fun _ => rfl) ?_
  exact ⟨_, rfl, t123, rfl, g123, (fun c i h => (e123 c i (by first | decide | omega)).trans (e121 c i (by first | decide | omega))), k25⟩
theorem sk_l354_139 (d n : Nat) {tb : en_H} {Q : en_O → Prop} (hQ : ∀ t1, ai_HG ah_G t1 → (∀ c i, ¬ (355 ≤ c ∧ c ≤ 357) → ai_hv t1 c i = ai_hv tb c i) → en_ex none (en_u d) (en_code 170) (fun _ => false) (58, [(2, .inl 8), (0, gx_r 354), (1, gx_r 139)], [], t1, n, 0) Q) : ∀ j k t0, k + j = 8 → ai_HG ah_G t0 → (∀ c i, ¬ (355 ≤ c ∧ c ≤ 357) → ai_hv t0 c i = ai_hv tb c i) → en_ex none (en_u d) (en_code 170) (fun _ => false) (10, [(2, .inl k), (0, gx_r 354), (1, gx_r 139)], [], t0, n, 0) Q := by
  intro j
  induction j with
  | zero =>
    intro k t0 hk g0 e0
    have hk : k = 8 := by omega
    subst hk
    refine ex_go (S := (11, [(2, .inl 8), (0, gx_r 354), (1, gx_r 139)], [.inl 8], t0, n, 0)) rfl (fun _ => rfl) rfl ?_
    refine ex_go (S := (13, [(2, .inl 8), (0, gx_r 354), (1, gx_r 139)], [.inl 8, .inl 8], t0, n, 0)) rfl (fun _ => rfl) rfl ?_
    refine ex_go (S := (58, [(2, .inl 8), (0, gx_r 354), (1, gx_r 139)], [], t0, n, 0)) rfl (fun _ => rfl) rfl ?_
    exact hQ t0 g0 e0
  | succ j ih =>
    intro k t0 hk g0 e0
    refine ex_go (S := (11, [(2, .inl k), (0, gx_r 354), (1, gx_r 139)], [.inl k], t0, n, 0)) rfl (fun _ => rfl) rfl ?_
    refine ex_go (S := (13, [(2, .inl k), (0, gx_r 354), (1, gx_r 139)], [.inl 8, .inl k], t0, n, 0)) rfl (fun _ => rfl) rfl ?_
    refine gx_2f (c := .ge) rfl (by first | decide | omega) (by first | decide | omega) (show ¬ (8 ≤ k) from by omega) rfl ?_
    refine ex_go (S := (17, [(2, .inl k), (0, gx_r 354), (1, gx_r 139)], [gx_r 354], t0, n, 0)) rfl (fun _ => rfl) rfl ?_
    refine gxo_ref (a := 354) (c := 355) rfl g0 rfl rfl rfl rfl rfl ?_
    refine ex_go (S := (21, [(2, .inl k), (0, gx_r 354), (1, gx_r 139)], [.inl k, gx_r 355], t0, n, 0)) rfl (fun _ => rfl) rfl ?_
    refine ex_go (S := (22, [(2, .inl k), (0, gx_r 354), (1, gx_r 139)], [gx_r 139, .inl k, gx_r 355], t0, n, 0)) rfl (fun _ => rfl) rfl ?_
    refine gxo_ref (a := 139) (c := 140) rfl g0 rfl rfl rfl rfl rfl ?_
    refine ex_go (S := (26, [(2, .inl k), (0, gx_r 354), (1, gx_r 139)], [.inl k, gx_r 140, .inl k, gx_r 355], t0, n, 0)) rfl (fun _ => rfl) rfl ?_
    obtain ⟨m21, k22, m21a, m21b, m21c⟩ := st_ld (c := 140) (i := k) g0 rfl (by first | decide | omega)
    refine gx_ag (v := .inl m21) (cb := fun c => Nat.beq c 0) rfl (fun _ => rfl) g0 rfl rfl k22 (by first | decide | omega) rfl ?_
    refine gx_ap rfl (fun _ => rfl) g0 rfl rfl rfl (show k < 8 by omega) (gx_run1 (show k < 8 by omega)) (st_rh m21a m21b m21c) rfl (fun t123 g123 k123 e123 => ?_)
    refine ex_go (S := (29, [(2, .inl k), (0, gx_r 354), (1, gx_r 139)], [gx_r 354], t123, n, 0)) rfl (fun _ => rfl) rfl ?_
    refine gxo_ref (a := 354) (c := 356) rfl g123 rfl rfl rfl rfl rfl ?_
    refine ex_go (S := (33, [(2, .inl k), (0, gx_r 354), (1, gx_r 139)], [.inl k, gx_r 356], t123, n, 0)) rfl (fun _ => rfl) rfl ?_
    refine ex_go (S := (34, [(2, .inl k), (0, gx_r 354), (1, gx_r 139)], [gx_r 139, .inl k, gx_r 356], t123, n, 0)) rfl (fun _ => rfl) rfl ?_
    refine gxo_ref (a := 139) (c := 141) rfl g123 rfl rfl rfl rfl rfl ?_
    refine ex_go (S := (38, [(2, .inl k), (0, gx_r 354), (1, gx_r 139)], [.inl k, gx_r 141, .inl k, gx_r 356], t123, n, 0)) rfl (fun _ => rfl) rfl ?_
    obtain ⟨m24, k25, m24a, m24b, m24c⟩ := st_ld (c := 141) (i := k) g123 rfl (by first | decide | omega)
    refine gx_ag (v := .inl m24) (cb := fun c => Nat.beq c 0) rfl (fun _ => rfl) g123 rfl rfl k25 (by first | decide | omega) rfl ?_
    refine gx_ap rfl (fun _ => rfl) g123 rfl rfl rfl (show k < 8 by omega) (gx_run1 (show k < 8 by omega)) (st_rh m24a m24b m24c) rfl (fun t126 g126 k126 e126 => ?_)
    refine ex_go (S := (41, [(2, .inl k), (0, gx_r 354), (1, gx_r 139)], [gx_r 354], t126, n, 0)) rfl (fun _ => rfl) rfl ?_
    refine gxo_ref (a := 354) (c := 357) rfl g126 rfl rfl rfl rfl rfl ?_
    refine ex_go (S := (45, [(2, .inl k), (0, gx_r 354), (1, gx_r 139)], [.inl k, gx_r 357], t126, n, 0)) rfl (fun _ => rfl) rfl ?_
    refine ex_go (S := (46, [(2, .inl k), (0, gx_r 354), (1, gx_r 139)], [gx_r 139, .inl k, gx_r 357], t126, n, 0)) rfl (fun _ => rfl) rfl ?_
    refine gxo_ref (a := 139) (c := 142) rfl g126 rfl rfl rfl rfl rfl ?_
    refine ex_go (S := (50, [(2, .inl k), (0, gx_r 354), (1, gx_r 139)], [.inl k, gx_r 142, .inl k, gx_r 357], t126, n, 0)) rfl (fun _ => rfl) rfl ?_
    obtain ⟨m27, k28, m27a, m27b, m27c⟩ := st_ld (c := 142) (i := k) g126 rfl (by first | decide | omega)
    refine gx_ag (v := .inl m27) (cb := fun c => Nat.beq c 0) rfl (fun _ => rfl) g126 rfl rfl k28 (by first | decide | omega) rfl ?_
    refine gx_ap rfl (fun _ => rfl) g126 rfl rfl rfl (show k < 8 by omega) (gx_run1 (show k < 8 by omega)) (st_rh m27a m27b m27c) rfl (fun t129 g129 k129 e129 => ?_)
    refine gx_iinc (i := 2) (k := 1) rfl (fun _ => rfl) (by first | decide | omega) rfl ?_
    show en_ex _ _ _ _ (55, [(2, .inl (k + 1)), (0, gx_r 354), (1, gx_r 139)], [], t129, n, 0) _
    refine ex_go (S := (10, [(2, .inl (k + 1)), (0, gx_r 354), (1, gx_r 139)], [], t129, n, 0)) rfl (fun _ => rfl) rfl ?_
    exact ih (k + 1) t129 (by first | decide | omega) g129 (fun c i h => ((e129 c i (by first | decide | omega)).trans ((e126 c i (by first | decide | omega)).trans (e123 c i (by first | decide | omega)))).trans (e0 c i h))
theorem sk_354_139 (d n : Nat) {t0 : en_H} {q : Nat} (g0 : ai_HG ah_G t0) (kq : ai_hv t0 139 0 = some (.inl q)) (hq : q ≤ 8) : ∃ r, en_u (d + 1) 170 [gx_r 354, gx_r 139] t0 n = some r ∧ ∃ t', r = (none, t', n, 0) ∧ ai_HG ah_G t' ∧ (∀ c i, ¬ ((c = 354 ∧ i = 0) ∨ (355 ≤ c ∧ c ≤ 357)) → ai_hv t' c i = ai_hv t0 c i) ∧ ai_hv t' 354 0 = some (.inl q) := by
  refine en_u_ex rfl ?_
  show en_ex _ _ _ _ (0, [(0, gx_r 354), (1, gx_r 139)], [], t0, n, 0) _
  refine ex_go (S := (1, [(0, gx_r 354), (1, gx_r 139)], [gx_r 354], t0, n, 0)) rfl (fun _ => rfl) rfl ?_
  refine ex_go (S := (2, [(0, gx_r 354), (1, gx_r 139)], [gx_r 139, gx_r 354], t0, n, 0)) rfl (fun _ => rfl) rfl ?_
  refine gxo_get (a := 139) rfl g0 rfl rfl kq rfl ?_
  refine gxo_put (a := 354) rfl g0 rfl rfl rfl (ai_in_h (by first | decide | omega) (by first | decide | omega) (by first | decide | omega)) rfl (fun t121 g121 k121 e121 => ?_)
  have k22 : ai_hv t121 139 0 = some (.inl q) := (e121 139 0 (by first | decide | omega)).trans kq
  refine ex_go (S := (9, [(0, gx_r 354), (1, gx_r 139)], [.inl 0], t121, n, 0)) rfl (fun _ => rfl) rfl ?_
  refine ex_go (S := (10, [(2, .inl 0), (0, gx_r 354), (1, gx_r 139)], [], t121, n, 0)) rfl (fun _ => rfl) rfl ?_
  refine sk_l354_139 d n (tb := t121) (fun t123 g123 e123 => ?_) 8 0 _ rfl g121 (fun _ _ _ => rfl)
  have k24 : ai_hv t123 139 0 = some (.inl q) := (e123 139 0 (by first | decide | omega)).trans k22
  have k25 : ai_hv t123 354 0 = some (.inl q) := (e123 354 0 (by first | decide | omega)).trans k121
  refine ex_ret (r := (none, t123, n, 0)) rfl (fun _ => rfl) ?_
  exact ⟨_, rfl, t123, rfl, g123, (fun c i h => (e123 c i (by first | decide | omega)).trans (e121 c i (by first | decide | omega))), k25⟩
theorem sk_l139_354 (d n : Nat) {tb : en_H} {Q : en_O → Prop} (hQ : ∀ t1, ai_HG ah_G t1 → (∀ c i, ¬ (140 ≤ c ∧ c ≤ 142) → ai_hv t1 c i = ai_hv tb c i) → en_ex none (en_u d) (en_code 170) (fun _ => false) (58, [(2, .inl 8), (0, gx_r 139), (1, gx_r 354)], [], t1, n, 0) Q) : ∀ j k t0, k + j = 8 → ai_HG ah_G t0 → (∀ c i, ¬ (140 ≤ c ∧ c ≤ 142) → ai_hv t0 c i = ai_hv tb c i) → en_ex none (en_u d) (en_code 170) (fun _ => false) (10, [(2, .inl k), (0, gx_r 139), (1, gx_r 354)], [], t0, n, 0) Q := by
  intro j
  induction j with
  | zero =>
    intro k t0 hk g0 e0
    have hk : k = 8 := by omega
    subst hk
    refine ex_go (S := (11, [(2, .inl 8), (0, gx_r 139), (1, gx_r 354)], [.inl 8], t0, n, 0)) rfl (fun _ => rfl) rfl ?_
    refine ex_go (S := (13, [(2, .inl 8), (0, gx_r 139), (1, gx_r 354)], [.inl 8, .inl 8], t0, n, 0)) rfl (fun _ => rfl) rfl ?_
    refine ex_go (S := (58, [(2, .inl 8), (0, gx_r 139), (1, gx_r 354)], [], t0, n, 0)) rfl (fun _ => rfl) rfl ?_
    exact hQ t0 g0 e0
  | succ j ih =>
    intro k t0 hk g0 e0
    refine ex_go (S := (11, [(2, .inl k), (0, gx_r 139), (1, gx_r 354)], [.inl k], t0, n, 0)) rfl (fun _ => rfl) rfl ?_
    refine ex_go (S := (13, [(2, .inl k), (0, gx_r 139), (1, gx_r 354)], [.inl 8, .inl k], t0, n, 0)) rfl (fun _ => rfl) rfl ?_
    refine gx_2f (c := .ge) rfl (by first | decide | omega) (by first | decide | omega) (show ¬ (8 ≤ k) from by omega) rfl ?_
    refine ex_go (S := (17, [(2, .inl k), (0, gx_r 139), (1, gx_r 354)], [gx_r 139], t0, n, 0)) rfl (fun _ => rfl) rfl ?_
    refine gxo_ref (a := 139) (c := 140) rfl g0 rfl rfl rfl rfl rfl ?_
    refine ex_go (S := (21, [(2, .inl k), (0, gx_r 139), (1, gx_r 354)], [.inl k, gx_r 140], t0, n, 0)) rfl (fun _ => rfl) rfl ?_
    refine ex_go (S := (22, [(2, .inl k), (0, gx_r 139), (1, gx_r 354)], [gx_r 354, .inl k, gx_r 140], t0, n, 0)) rfl (fun _ => rfl) rfl ?_
    refine gxo_ref (a := 354) (c := 355) rfl g0 rfl rfl rfl rfl rfl ?_
    refine ex_go (S := (26, [(2, .inl k), (0, gx_r 139), (1, gx_r 354)], [.inl k, gx_r 355, .inl k, gx_r 140], t0, n, 0)) rfl (fun _ => rfl) rfl ?_
    obtain ⟨m21, k22, m21a, m21b, m21c⟩ := st_ld (c := 355) (i := k) g0 rfl (by first | decide | omega)
    refine gx_ag (v := .inl m21) (cb := fun c => Nat.beq c 0) rfl (fun _ => rfl) g0 rfl rfl k22 (by first | decide | omega) rfl ?_
    refine gx_ap rfl (fun _ => rfl) g0 rfl rfl rfl (show k < 8 by omega) (gx_run1 (show k < 8 by omega)) (st_rh m21a m21b m21c) rfl (fun t123 g123 k123 e123 => ?_)
    refine ex_go (S := (29, [(2, .inl k), (0, gx_r 139), (1, gx_r 354)], [gx_r 139], t123, n, 0)) rfl (fun _ => rfl) rfl ?_
    refine gxo_ref (a := 139) (c := 141) rfl g123 rfl rfl rfl rfl rfl ?_
    refine ex_go (S := (33, [(2, .inl k), (0, gx_r 139), (1, gx_r 354)], [.inl k, gx_r 141], t123, n, 0)) rfl (fun _ => rfl) rfl ?_
    refine ex_go (S := (34, [(2, .inl k), (0, gx_r 139), (1, gx_r 354)], [gx_r 354, .inl k, gx_r 141], t123, n, 0)) rfl (fun _ => rfl) rfl ?_
    refine gxo_ref (a := 354) (c := 356) rfl g123 rfl rfl rfl rfl rfl ?_
    refine ex_go (S := (38, [(2, .inl k), (0, gx_r 139), (1, gx_r 354)], [.inl k, gx_r 356, .inl k, gx_r 141], t123, n, 0)) rfl (fun _ => rfl) rfl ?_
    obtain ⟨m24, k25, m24a, m24b, m24c⟩ := st_ld (c := 356) (i := k) g123 rfl (by first | decide | omega)
    refine gx_ag (v := .inl m24) (cb := fun c => Nat.beq c 0) rfl (fun _ => rfl) g123 rfl rfl k25 (by first | decide | omega) rfl ?_
    refine gx_ap rfl (fun _ => rfl) g123 rfl rfl rfl (show k < 8 by omega) (gx_run1 (show k < 8 by omega)) (st_rh m24a m24b m24c) rfl (fun t126 g126 k126 e126 => ?_)
    refine ex_go (S := (41, [(2, .inl k), (0, gx_r 139), (1, gx_r 354)], [gx_r 139], t126, n, 0)) rfl (fun _ => rfl) rfl ?_
    refine gxo_ref (a := 139) (c := 142) rfl g126 rfl rfl rfl rfl rfl ?_
    refine ex_go (S := (45, [(2, .inl k), (0, gx_r 139), (1, gx_r 354)], [.inl k, gx_r 142], t126, n, 0)) rfl (fun _ => rfl) rfl ?_
    refine ex_go (S := (46, [(2, .inl k), (0, gx_r 139), (1, gx_r 354)], [gx_r 354, .inl k, gx_r 142], t126, n, 0)) rfl (fun _ => rfl) rfl ?_
    refine gxo_ref (a := 354) (c := 357) rfl g126 rfl rfl rfl rfl rfl ?_
    refine ex_go (S := (50, [(2, .inl k), (0, gx_r 139), (1, gx_r 354)], [.inl k, gx_r 357, .inl k, gx_r 142], t126, n, 0)) rfl (fun _ => rfl) rfl ?_
    obtain ⟨m27, k28, m27a, m27b, m27c⟩ := st_ld (c := 357) (i := k) g126 rfl (by first | decide | omega)
    refine gx_ag (v := .inl m27) (cb := fun c => Nat.beq c 0) rfl (fun _ => rfl) g126 rfl rfl k28 (by first | decide | omega) rfl ?_
    refine gx_ap rfl (fun _ => rfl) g126 rfl rfl rfl (show k < 8 by omega) (gx_run1 (show k < 8 by omega)) (st_rh m27a m27b m27c) rfl (fun t129 g129 k129 e129 => ?_)
    refine gx_iinc (i := 2) (k := 1) rfl (fun _ => rfl) (by first | decide | omega) rfl ?_
    show en_ex _ _ _ _ (55, [(2, .inl (k + 1)), (0, gx_r 139), (1, gx_r 354)], [], t129, n, 0) _
    refine ex_go (S := (10, [(2, .inl (k + 1)), (0, gx_r 139), (1, gx_r 354)], [], t129, n, 0)) rfl (fun _ => rfl) rfl ?_
    exact ih (k + 1) t129 (by first | decide | omega) g129 (fun c i h => ((e129 c i (by first | decide | omega)).trans ((e126 c i (by first | decide | omega)).trans (e123 c i (by first | decide | omega)))).trans (e0 c i h))
theorem sk_139_354 (d n : Nat) {t0 : en_H} {q : Nat} (g0 : ai_HG ah_G t0) (kq : ai_hv t0 354 0 = some (.inl q)) (hq : q ≤ 8) : ∃ r, en_u (d + 1) 170 [gx_r 139, gx_r 354] t0 n = some r ∧ ∃ t', r = (none, t', n, 0) ∧ ai_HG ah_G t' ∧ (∀ c i, ¬ ((c = 139 ∧ i = 0) ∨ (140 ≤ c ∧ c ≤ 142)) → ai_hv t' c i = ai_hv t0 c i) ∧ ai_hv t' 139 0 = some (.inl q) := by
  refine en_u_ex rfl ?_
  show en_ex _ _ _ _ (0, [(0, gx_r 139), (1, gx_r 354)], [], t0, n, 0) _
  refine ex_go (S := (1, [(0, gx_r 139), (1, gx_r 354)], [gx_r 139], t0, n, 0)) rfl (fun _ => rfl) rfl ?_
  refine ex_go (S := (2, [(0, gx_r 139), (1, gx_r 354)], [gx_r 354, gx_r 139], t0, n, 0)) rfl (fun _ => rfl) rfl ?_
  refine gxo_get (a := 354) rfl g0 rfl rfl kq rfl ?_
  refine gxo_put (a := 139) rfl g0 rfl rfl rfl (ai_in_h (by first | decide | omega) (by first | decide | omega) (by first | decide | omega)) rfl (fun t121 g121 k121 e121 => ?_)
  have k22 : ai_hv t121 354 0 = some (.inl q) := (e121 354 0 (by first | decide | omega)).trans kq
  refine ex_go (S := (9, [(0, gx_r 139), (1, gx_r 354)], [.inl 0], t121, n, 0)) rfl (fun _ => rfl) rfl ?_
  refine ex_go (S := (10, [(2, .inl 0), (0, gx_r 139), (1, gx_r 354)], [], t121, n, 0)) rfl (fun _ => rfl) rfl ?_
  refine sk_l139_354 d n (tb := t121) (fun t123 g123 e123 => ?_) 8 0 _ rfl g121 (fun _ _ _ => rfl)
  have k24 : ai_hv t123 354 0 = some (.inl q) := (e123 354 0 (by first | decide | omega)).trans k22
  have k25 : ai_hv t123 139 0 = some (.inl q) := (e123 139 0 (by first | decide | omega)).trans k121
  refine ex_ret (r := (none, t123, n, 0)) rfl (fun _ => rfl) ?_
  exact ⟨_, rfl, t123, rfl, g123, (fun c i h => (e123 c i (by first | decide | omega)).trans (e121 c i (by first | decide | omega))), k25⟩
theorem sk_l366_139 (d n : Nat) {tb : en_H} {Q : en_O → Prop} (hQ : ∀ t1, ai_HG ah_G t1 → (∀ c i, ¬ (367 ≤ c ∧ c ≤ 369) → ai_hv t1 c i = ai_hv tb c i) → en_ex none (en_u d) (en_code 170) (fun _ => false) (58, [(2, .inl 8), (0, gx_r 366), (1, gx_r 139)], [], t1, n, 0) Q) : ∀ j k t0, k + j = 8 → ai_HG ah_G t0 → (∀ c i, ¬ (367 ≤ c ∧ c ≤ 369) → ai_hv t0 c i = ai_hv tb c i) → en_ex none (en_u d) (en_code 170) (fun _ => false) (10, [(2, .inl k), (0, gx_r 366), (1, gx_r 139)], [], t0, n, 0) Q := by
  intro j
  induction j with
  | zero =>
    intro k t0 hk g0 e0
    have hk : k = 8 := by omega
    subst hk
    refine ex_go (S := (11, [(2, .inl 8), (0, gx_r 366), (1, gx_r 139)], [.inl 8], t0, n, 0)) rfl (fun _ => rfl) rfl ?_
    refine ex_go (S := (13, [(2, .inl 8), (0, gx_r 366), (1, gx_r 139)], [.inl 8, .inl 8], t0, n, 0)) rfl (fun _ => rfl) rfl ?_
    refine ex_go (S := (58, [(2, .inl 8), (0, gx_r 366), (1, gx_r 139)], [], t0, n, 0)) rfl (fun _ => rfl) rfl ?_
    exact hQ t0 g0 e0
  | succ j ih =>
    intro k t0 hk g0 e0
    refine ex_go (S := (11, [(2, .inl k), (0, gx_r 366), (1, gx_r 139)], [.inl k], t0, n, 0)) rfl (fun _ => rfl) rfl ?_
    refine ex_go (S := (13, [(2, .inl k), (0, gx_r 366), (1, gx_r 139)], [.inl 8, .inl k], t0, n, 0)) rfl (fun _ => rfl) rfl ?_
    refine gx_2f (c := .ge) rfl (by first | decide | omega) (by first | decide | omega) (show ¬ (8 ≤ k) from by omega) rfl ?_
    refine ex_go (S := (17, [(2, .inl k), (0, gx_r 366), (1, gx_r 139)], [gx_r 366], t0, n, 0)) rfl (fun _ => rfl) rfl ?_
    refine gxo_ref (a := 366) (c := 367) rfl g0 rfl rfl rfl rfl rfl ?_
    refine ex_go (S := (21, [(2, .inl k), (0, gx_r 366), (1, gx_r 139)], [.inl k, gx_r 367], t0, n, 0)) rfl (fun _ => rfl) rfl ?_
    refine ex_go (S := (22, [(2, .inl k), (0, gx_r 366), (1, gx_r 139)], [gx_r 139, .inl k, gx_r 367], t0, n, 0)) rfl (fun _ => rfl) rfl ?_
    refine gxo_ref (a := 139) (c := 140) rfl g0 rfl rfl rfl rfl rfl ?_
    refine ex_go (S := (26, [(2, .inl k), (0, gx_r 366), (1, gx_r 139)], [.inl k, gx_r 140, .inl k, gx_r 367], t0, n, 0)) rfl (fun _ => rfl) rfl ?_
    obtain ⟨m21, k22, m21a, m21b, m21c⟩ := st_ld (c := 140) (i := k) g0 rfl (by first | decide | omega)
    refine gx_ag (v := .inl m21) (cb := fun c => Nat.beq c 0) rfl (fun _ => rfl) g0 rfl rfl k22 (by first | decide | omega) rfl ?_
    refine gx_ap rfl (fun _ => rfl) g0 rfl rfl rfl (show k < 8 by omega) (gx_run1 (show k < 8 by omega)) (st_rh m21a m21b m21c) rfl (fun t123 g123 k123 e123 => ?_)
    refine ex_go (S := (29, [(2, .inl k), (0, gx_r 366), (1, gx_r 139)], [gx_r 366], t123, n, 0)) rfl (fun _ => rfl) rfl ?_
    refine gxo_ref (a := 366) (c := 368) rfl g123 rfl rfl rfl rfl rfl ?_
    refine ex_go (S := (33, [(2, .inl k), (0, gx_r 366), (1, gx_r 139)], [.inl k, gx_r 368], t123, n, 0)) rfl (fun _ => rfl) rfl ?_
    refine ex_go (S := (34, [(2, .inl k), (0, gx_r 366), (1, gx_r 139)], [gx_r 139, .inl k, gx_r 368], t123, n, 0)) rfl (fun _ => rfl) rfl ?_
    refine gxo_ref (a := 139) (c := 141) rfl g123 rfl rfl rfl rfl rfl ?_
    refine ex_go (S := (38, [(2, .inl k), (0, gx_r 366), (1, gx_r 139)], [.inl k, gx_r 141, .inl k, gx_r 368], t123, n, 0)) rfl (fun _ => rfl) rfl ?_
    obtain ⟨m24, k25, m24a, m24b, m24c⟩ := st_ld (c := 141) (i := k) g123 rfl (by first | decide | omega)
    refine gx_ag (v := .inl m24) (cb := fun c => Nat.beq c 0) rfl (fun _ => rfl) g123 rfl rfl k25 (by first | decide | omega) rfl ?_
    refine gx_ap rfl (fun _ => rfl) g123 rfl rfl rfl (show k < 8 by omega) (gx_run1 (show k < 8 by omega)) (st_rh m24a m24b m24c) rfl (fun t126 g126 k126 e126 => ?_)
    refine ex_go (S := (41, [(2, .inl k), (0, gx_r 366), (1, gx_r 139)], [gx_r 366], t126, n, 0)) rfl (fun _ => rfl) rfl ?_
    refine gxo_ref (a := 366) (c := 369) rfl g126 rfl rfl rfl rfl rfl ?_
    refine ex_go (S := (45, [(2, .inl k), (0, gx_r 366), (1, gx_r 139)], [.inl k, gx_r 369], t126, n, 0)) rfl (fun _ => rfl) rfl ?_
    refine ex_go (S := (46, [(2, .inl k), (0, gx_r 366), (1, gx_r 139)], [gx_r 139, .inl k, gx_r 369], t126, n, 0)) rfl (fun _ => rfl) rfl ?_
    refine gxo_ref (a := 139) (c := 142) rfl g126 rfl rfl rfl rfl rfl ?_
    refine ex_go (S := (50, [(2, .inl k), (0, gx_r 366), (1, gx_r 139)], [.inl k, gx_r 142, .inl k, gx_r 369], t126, n, 0)) rfl (fun _ => rfl) rfl ?_
    obtain ⟨m27, k28, m27a, m27b, m27c⟩ := st_ld (c := 142) (i := k) g126 rfl (by first | decide | omega)
    refine gx_ag (v := .inl m27) (cb := fun c => Nat.beq c 0) rfl (fun _ => rfl) g126 rfl rfl k28 (by first | decide | omega) rfl ?_
    refine gx_ap rfl (fun _ => rfl) g126 rfl rfl rfl (show k < 8 by omega) (gx_run1 (show k < 8 by omega)) (st_rh m27a m27b m27c) rfl (fun t129 g129 k129 e129 => ?_)
    refine gx_iinc (i := 2) (k := 1) rfl (fun _ => rfl) (by first | decide | omega) rfl ?_
    show en_ex _ _ _ _ (55, [(2, .inl (k + 1)), (0, gx_r 366), (1, gx_r 139)], [], t129, n, 0) _
    refine ex_go (S := (10, [(2, .inl (k + 1)), (0, gx_r 366), (1, gx_r 139)], [], t129, n, 0)) rfl (fun _ => rfl) rfl ?_
    exact ih (k + 1) t129 (by first | decide | omega) g129 (fun c i h => ((e129 c i (by first | decide | omega)).trans ((e126 c i (by first | decide | omega)).trans (e123 c i (by first | decide | omega)))).trans (e0 c i h))
theorem sk_366_139 (d n : Nat) {t0 : en_H} {q : Nat} (g0 : ai_HG ah_G t0) (kq : ai_hv t0 139 0 = some (.inl q)) (hq : q ≤ 8) : ∃ r, en_u (d + 1) 170 [gx_r 366, gx_r 139] t0 n = some r ∧ ∃ t', r = (none, t', n, 0) ∧ ai_HG ah_G t' ∧ (∀ c i, ¬ ((c = 366 ∧ i = 0) ∨ (367 ≤ c ∧ c ≤ 369)) → ai_hv t' c i = ai_hv t0 c i) ∧ ai_hv t' 366 0 = some (.inl q) := by
  refine en_u_ex rfl ?_
  show en_ex _ _ _ _ (0, [(0, gx_r 366), (1, gx_r 139)], [], t0, n, 0) _
  refine ex_go (S := (1, [(0, gx_r 366), (1, gx_r 139)], [gx_r 366], t0, n, 0)) rfl (fun _ => rfl) rfl ?_
  refine ex_go (S := (2, [(0, gx_r 366), (1, gx_r 139)], [gx_r 139, gx_r 366], t0, n, 0)) rfl (fun _ => rfl) rfl ?_
  refine gxo_get (a := 139) rfl g0 rfl rfl kq rfl ?_
  refine gxo_put (a := 366) rfl g0 rfl rfl rfl (ai_in_h (by first | decide | omega) (by first | decide | omega) (by first | decide | omega)) rfl (fun t121 g121 k121 e121 => ?_)
  have k22 : ai_hv t121 139 0 = some (.inl q) := (e121 139 0 (by first | decide | omega)).trans kq
  refine ex_go (S := (9, [(0, gx_r 366), (1, gx_r 139)], [.inl 0], t121, n, 0)) rfl (fun _ => rfl) rfl ?_
  refine ex_go (S := (10, [(2, .inl 0), (0, gx_r 366), (1, gx_r 139)], [], t121, n, 0)) rfl (fun _ => rfl) rfl ?_
  refine sk_l366_139 d n (tb := t121) (fun t123 g123 e123 => ?_) 8 0 _ rfl g121 (fun _ _ _ => rfl)
  have k24 : ai_hv t123 139 0 = some (.inl q) := (e123 139 0 (by first | decide | omega)).trans k22
  have k25 : ai_hv t123 366 0 = some (.inl q) := (e123 366 0 (by first | decide | omega)).trans k121
  refine ex_ret (r := (none, t123, n, 0)) rfl (fun _ => rfl) ?_
  exact ⟨_, rfl, t123, rfl, g123, (fun c i h => (e123 c i (by first | decide | omega)).trans (e121 c i (by first | decide | omega))), k25⟩
theorem sk_l139_366 (d n : Nat) {tb : en_H} {Q : en_O → Prop} (hQ : ∀ t1, ai_HG ah_G t1 → (∀ c i, ¬ (140 ≤ c ∧ c ≤ 142) → ai_hv t1 c i = ai_hv tb c i) → en_ex none (en_u d) (en_code 170) (fun _ => false) (58, [(2, .inl 8), (0, gx_r 139), (1, gx_r 366)], [], t1, n, 0) Q) : ∀ j k t0, k + j = 8 → ai_HG ah_G t0 → (∀ c i, ¬ (140 ≤ c ∧ c ≤ 142) → ai_hv t0 c i = ai_hv tb c i) → en_ex none (en_u d) (en_code 170) (fun _ => false) (10, [(2, .inl k), (0, gx_r 139), (1, gx_r 366)], [], t0, n, 0) Q := by
  intro j
  induction j with
  | zero =>
    intro k t0 hk g0 e0
    have hk : k = 8 := by omega
    subst hk
    refine ex_go (S := (11, [(2, .inl 8), (0, gx_r 139), (1, gx_r 366)], [.inl 8], t0, n, 0)) rfl (fun _ => rfl) rfl ?_
    refine ex_go (S := (13, [(2, .inl 8), (0, gx_r 139), (1, gx_r 366)], [.inl 8, .inl 8], t0, n, 0)) rfl (fun _ => rfl) rfl ?_
    refine ex_go (S := (58, [(2, .inl 8), (0, gx_r 139), (1, gx_r 366)], [], t0, n, 0)) rfl (fun _ => rfl) rfl ?_
    exact hQ t0 g0 e0
  | succ j ih =>
    intro k t0 hk g0 e0
    refine ex_go (S := (11, [(2, .inl k), (0, gx_r 139), (1, gx_r 366)], [.inl k], t0, n, 0)) rfl (fun _ => rfl) rfl ?_
    refine ex_go (S := (13, [(2, .inl k), (0, gx_r 139), (1, gx_r 366)], [.inl 8, .inl k], t0, n, 0)) rfl (fun _ => rfl) rfl ?_
    refine gx_2f (c := .ge) rfl (by first | decide | omega) (by first | decide | omega) (show ¬ (8 ≤ k) from by omega) rfl ?_
    refine ex_go (S := (17, [(2, .inl k), (0, gx_r 139), (1, gx_r 366)], [gx_r 139], t0, n, 0)) rfl (fun _ => rfl) rfl ?_
    refine gxo_ref (a := 139) (c := 140) rfl g0 rfl rfl rfl rfl rfl ?_
    refine ex_go (S := (21, [(2, .inl k), (0, gx_r 139), (1, gx_r 366)], [.inl k, gx_r 140], t0, n, 0)) rfl (fun _ => rfl) rfl ?_
    refine ex_go (S := (22, [(2, .inl k), (0, gx_r 139), (1, gx_r 366)], [gx_r 366, .inl k, gx_r 140], t0, n, 0)) rfl (fun _ => rfl) rfl ?_
    refine gxo_ref (a := 366) (c := 367) rfl g0 rfl rfl rfl rfl rfl ?_
    refine ex_go (S := (26, [(2, .inl k), (0, gx_r 139), (1, gx_r 366)], [.inl k, gx_r 367, .inl k, gx_r 140], t0, n, 0)) rfl (fun _ => rfl) rfl ?_
    obtain ⟨m21, k22, m21a, m21b, m21c⟩ := st_ld (c := 367) (i := k) g0 rfl (by first | decide | omega)
    refine gx_ag (v := .inl m21) (cb := fun c => Nat.beq c 0) rfl (fun _ => rfl) g0 rfl rfl k22 (by first | decide | omega) rfl ?_
    refine gx_ap rfl (fun _ => rfl) g0 rfl rfl rfl (show k < 8 by omega) (gx_run1 (show k < 8 by omega)) (st_rh m21a m21b m21c) rfl (fun t123 g123 k123 e123 => ?_)
    refine ex_go (S := (29, [(2, .inl k), (0, gx_r 139), (1, gx_r 366)], [gx_r 139], t123, n, 0)) rfl (fun _ => rfl) rfl ?_
    refine gxo_ref (a := 139) (c := 141) rfl g123 rfl rfl rfl rfl rfl ?_
    refine ex_go (S := (33, [(2, .inl k), (0, gx_r 139), (1, gx_r 366)], [.inl k, gx_r 141], t123, n, 0)) rfl (fun _ => rfl) rfl ?_
    refine ex_go (S := (34, [(2, .inl k), (0, gx_r 139), (1, gx_r 366)], [gx_r 366, .inl k, gx_r 141], t123, n, 0)) rfl (fun _ => rfl) rfl ?_
    refine gxo_ref (a := 366) (c := 368) rfl g123 rfl rfl rfl rfl rfl ?_
    refine ex_go (S := (38, [(2, .inl k), (0, gx_r 139), (1, gx_r 366)], [.inl k, gx_r 368, .inl k, gx_r 141], t123, n, 0)) rfl (fun _ => rfl) rfl ?_
    obtain ⟨m24, k25, m24a, m24b, m24c⟩ := st_ld (c := 368) (i := k) g123 rfl (by first | decide | omega)
    refine gx_ag (v := .inl m24) (cb := fun c => Nat.beq c 0) rfl (fun _ => rfl) g123 rfl rfl k25 (by first | decide | omega) rfl ?_
    refine gx_ap rfl (fun _ => rfl) g123 rfl rfl rfl (show k < 8 by omega) (gx_run1 (show k < 8 by omega)) (st_rh m24a m24b m24c) rfl (fun t126 g126 k126 e126 => ?_)
    refine ex_go (S := (41, [(2, .inl k), (0, gx_r 139), (1, gx_r 366)], [gx_r 139], t126, n, 0)) rfl (fun _ => rfl) rfl ?_
    refine gxo_ref (a := 139) (c := 142) rfl g126 rfl rfl rfl rfl rfl ?_
    refine ex_go (S := (45, [(2, .inl k), (0, gx_r 139), (1, gx_r 366)], [.inl k, gx_r 142], t126, n, 0)) rfl (fun _ => rfl) rfl ?_
    refine ex_go (S := (46, [(2, .inl k), (0, gx_r 139), (1, gx_r 366)], [gx_r 366, .inl k, gx_r 142], t126, n, 0)) rfl (fun _ => rfl) rfl ?_
    refine gxo_ref (a := 366) (c := 369) rfl g126 rfl rfl rfl rfl rfl ?_
    refine ex_go (S := (50, [(2, .inl k), (0, gx_r 139), (1, gx_r 366)], [.inl k, gx_r 369, .inl k, gx_r 142], t126, n, 0)) rfl (fun _ => rfl) rfl ?_
    obtain ⟨m27, k28, m27a, m27b, m27c⟩ := st_ld (c := 369) (i := k) g126 rfl (by first | decide | omega)
    refine gx_ag (v := .inl m27) (cb := fun c => Nat.beq c 0) rfl (fun _ => rfl) g126 rfl rfl k28 (by first | decide | omega) rfl ?_
    refine gx_ap rfl (fun _ => rfl) g126 rfl rfl rfl (show k < 8 by omega) (gx_run1 (show k < 8 by omega)) (st_rh m27a m27b m27c) rfl (fun t129 g129 k129 e129 => ?_)
    refine gx_iinc (i := 2) (k := 1) rfl (fun _ => rfl) (by first | decide | omega) rfl ?_
    show en_ex _ _ _ _ (55, [(2, .inl (k + 1)), (0, gx_r 139), (1, gx_r 366)], [], t129, n, 0) _
    refine ex_go (S := (10, [(2, .inl (k + 1)), (0, gx_r 139), (1, gx_r 366)], [], t129, n, 0)) rfl (fun _ => rfl) rfl ?_
    exact ih (k + 1) t129 (by first | decide | omega) g129 (fun c i h => ((e129 c i (by first | decide | omega)).trans ((e126 c i (by first | decide | omega)).trans (e123 c i (by first | decide | omega)))).trans (e0 c i h))
theorem sk_139_366 (d n : Nat) {t0 : en_H} {q : Nat} (g0 : ai_HG ah_G t0) (kq : ai_hv t0 366 0 = some (.inl q)) (hq : q ≤ 8) : ∃ r, en_u (d + 1) 170 [gx_r 139, gx_r 366] t0 n = some r ∧ ∃ t', r = (none, t', n, 0) ∧ ai_HG ah_G t' ∧ (∀ c i, ¬ ((c = 139 ∧ i = 0) ∨ (140 ≤ c ∧ c ≤ 142)) → ai_hv t' c i = ai_hv t0 c i) ∧ ai_hv t' 139 0 = some (.inl q) := by
  refine en_u_ex rfl ?_
  show en_ex _ _ _ _ (0, [(0, gx_r 139), (1, gx_r 366)], [], t0, n, 0) _
  refine ex_go (S := (1, [(0, gx_r 139), (1, gx_r 366)], [gx_r 139], t0, n, 0)) rfl (fun _ => rfl) rfl ?_
  refine ex_go (S := (2, [(0, gx_r 139), (1, gx_r 366)], [gx_r 366, gx_r 139], t0, n, 0)) rfl (fun _ => rfl) rfl ?_
  refine gxo_get (a := 366) rfl g0 rfl rfl kq rfl ?_
  refine gxo_put (a := 139) rfl g0 rfl rfl rfl (ai_in_h (by first | decide | omega) (by first | decide | omega) (by first | decide | omega)) rfl (fun t121 g121 k121 e121 => ?_)
  have k22 : ai_hv t121 366 0 = some (.inl q) := (e121 366 0 (by first | decide | omega)).trans kq
  refine ex_go (S := (9, [(0, gx_r 139), (1, gx_r 366)], [.inl 0], t121, n, 0)) rfl (fun _ => rfl) rfl ?_
  refine ex_go (S := (10, [(2, .inl 0), (0, gx_r 139), (1, gx_r 366)], [], t121, n, 0)) rfl (fun _ => rfl) rfl ?_
  refine sk_l139_366 d n (tb := t121) (fun t123 g123 e123 => ?_) 8 0 _ rfl g121 (fun _ _ _ => rfl)
  have k24 : ai_hv t123 366 0 = some (.inl q) := (e123 366 0 (by first | decide | omega)).trans k22
  have k25 : ai_hv t123 139 0 = some (.inl q) := (e123 139 0 (by first | decide | omega)).trans k121
  refine ex_ret (r := (none, t123, n, 0)) rfl (fun _ => rfl) ?_
  exact ⟨_, rfl, t123, rfl, g123, (fun c i h => (e123 c i (by first | decide | omega)).trans (e121 c i (by first | decide | omega))), k25⟩
theorem sk_l378_139 (d n : Nat) {tb : en_H} {Q : en_O → Prop} (hQ : ∀ t1, ai_HG ah_G t1 → (∀ c i, ¬ (379 ≤ c ∧ c ≤ 381) → ai_hv t1 c i = ai_hv tb c i) → en_ex none (en_u d) (en_code 170) (fun _ => false) (58, [(2, .inl 8), (0, gx_r 378), (1, gx_r 139)], [], t1, n, 0) Q) : ∀ j k t0, k + j = 8 → ai_HG ah_G t0 → (∀ c i, ¬ (379 ≤ c ∧ c ≤ 381) → ai_hv t0 c i = ai_hv tb c i) → en_ex none (en_u d) (en_code 170) (fun _ => false) (10, [(2, .inl k), (0, gx_r 378), (1, gx_r 139)], [], t0, n, 0) Q := by
  intro j
  induction j with
  | zero =>
    intro k t0 hk g0 e0
    have hk : k = 8 := by omega
    subst hk
    refine ex_go (S := (11, [(2, .inl 8), (0, gx_r 378), (1, gx_r 139)], [.inl 8], t0, n, 0)) rfl (fun _ => rfl) rfl ?_
    refine ex_go (S := (13, [(2, .inl 8), (0, gx_r 378), (1, gx_r 139)], [.inl 8, .inl 8], t0, n, 0)) rfl (fun _ => rfl) rfl ?_
    refine ex_go (S := (58, [(2, .inl 8), (0, gx_r 378), (1, gx_r 139)], [], t0, n, 0)) rfl (fun _ => rfl) rfl ?_
    exact hQ t0 g0 e0
  | succ j ih =>
    intro k t0 hk g0 e0
    refine ex_go (S := (11, [(2, .inl k), (0, gx_r 378), (1, gx_r 139)], [.inl k], t0, n, 0)) rfl (fun _ => rfl) rfl ?_
    refine ex_go (S := (13, [(2, .inl k), (0, gx_r 378), (1, gx_r 139)], [.inl 8, .inl k], t0, n, 0)) rfl (fun _ => rfl) rfl ?_
    refine gx_2f (c := .ge) rfl (by first | decide | omega) (by first | decide | omega) (show ¬ (8 ≤ k) from by omega) rfl ?_
    refine ex_go (S := (17, [(2, .inl k), (0, gx_r 378), (1, gx_r 139)], [gx_r 378], t0, n, 0)) rfl (fun _ => rfl) rfl ?_
    refine gxo_ref (a := 378) (c := 379) rfl g0 rfl rfl rfl rfl rfl ?_
    refine ex_go (S := (21, [(2, .inl k), (0, gx_r 378), (1, gx_r 139)], [.inl k, gx_r 379], t0, n, 0)) rfl (fun _ => rfl) rfl ?_
    refine ex_go (S := (22, [(2, .inl k), (0, gx_r 378), (1, gx_r 139)], [gx_r 139, .inl k, gx_r 379], t0, n, 0)) rfl (fun _ => rfl) rfl ?_
    refine gxo_ref (a := 139) (c := 140) rfl g0 rfl rfl rfl rfl rfl ?_
    refine ex_go (S := (26, [(2, .inl k), (0, gx_r 378), (1, gx_r 139)], [.inl k, gx_r 140, .inl k, gx_r 379], t0, n, 0)) rfl (fun _ => rfl) rfl ?_
    obtain ⟨m21, k22, m21a, m21b, m21c⟩ := st_ld (c := 140) (i := k) g0 rfl (by first | decide | omega)
    refine gx_ag (v := .inl m21) (cb := fun c => Nat.beq c 0) rfl (fun _ => rfl) g0 rfl rfl k22 (by first | decide | omega) rfl ?_
    refine gx_ap rfl (fun _ => rfl) g0 rfl rfl rfl (show k < 8 by omega) (gx_run1 (show k < 8 by omega)) (st_rh m21a m21b m21c) rfl (fun t123 g123 k123 e123 => ?_)
    refine ex_go (S := (29, [(2, .inl k), (0, gx_r 378), (1, gx_r 139)], [gx_r 378], t123, n, 0)) rfl (fun _ => rfl) rfl ?_
    refine gxo_ref (a := 378) (c := 380) rfl g123 rfl rfl rfl rfl rfl ?_
    refine ex_go (S := (33, [(2, .inl k), (0, gx_r 378), (1, gx_r 139)], [.inl k, gx_r 380], t123, n, 0)) rfl (fun _ => rfl) rfl ?_
    refine ex_go (S := (34, [(2, .inl k), (0, gx_r 378), (1, gx_r 139)], [gx_r 139, .inl k, gx_r 380], t123, n, 0)) rfl (fun _ => rfl) rfl ?_
    refine gxo_ref (a := 139) (c := 141) rfl g123 rfl rfl rfl rfl rfl ?_
    refine ex_go (S := (38, [(2, .inl k), (0, gx_r 378), (1, gx_r 139)], [.inl k, gx_r 141, .inl k, gx_r 380], t123, n, 0)) rfl (fun _ => rfl) rfl ?_
    obtain ⟨m24, k25, m24a, m24b, m24c⟩ := st_ld (c := 141) (i := k) g123 rfl (by first | decide | omega)
    refine gx_ag (v := .inl m24) (cb := fun c => Nat.beq c 0) rfl (fun _ => rfl) g123 rfl rfl k25 (by first | decide | omega) rfl ?_
    refine gx_ap rfl (fun _ => rfl) g123 rfl rfl rfl (show k < 8 by omega) (gx_run1 (show k < 8 by omega)) (st_rh m24a m24b m24c) rfl (fun t126 g126 k126 e126 => ?_)
    refine ex_go (S := (41, [(2, .inl k), (0, gx_r 378), (1, gx_r 139)], [gx_r 378], t126, n, 0)) rfl (fun _ => rfl) rfl ?_
    refine gxo_ref (a := 378) (c := 381) rfl g126 rfl rfl rfl rfl rfl ?_
    refine ex_go (S := (45, [(2, .inl k), (0, gx_r 378), (1, gx_r 139)], [.inl k, gx_r 381], t126, n, 0)) rfl (fun _ => rfl) rfl ?_
    refine ex_go (S := (46, [(2, .inl k), (0, gx_r 378), (1, gx_r 139)], [gx_r 139, .inl k, gx_r 381], t126, n, 0)) rfl (fun _ => rfl) rfl ?_
    refine gxo_ref (a := 139) (c := 142) rfl g126 rfl rfl rfl rfl rfl ?_
    refine ex_go (S := (50, [(2, .inl k), (0, gx_r 378), (1, gx_r 139)], [.inl k, gx_r 142, .inl k, gx_r 381], t126, n, 0)) rfl (fun _ => rfl) rfl ?_
    obtain ⟨m27, k28, m27a, m27b, m27c⟩ := st_ld (c := 142) (i := k) g126 rfl (by first | decide | omega)
    refine gx_ag (v := .inl m27) (cb := fun c => Nat.beq c 0) rfl (fun _ => rfl) g126 rfl rfl k28 (by first | decide | omega) rfl ?_
    refine gx_ap rfl (fun _ => rfl) g126 rfl rfl rfl (show k < 8 by omega) (gx_run1 (show k < 8 by omega)) (st_rh m27a m27b m27c) rfl (fun t129 g129 k129 e129 => ?_)
    refine gx_iinc (i := 2) (k := 1) rfl (fun _ => rfl) (by first | decide | omega) rfl ?_
    show en_ex _ _ _ _ (55, [(2, .inl (k + 1)), (0, gx_r 378), (1, gx_r 139)], [], t129, n, 0) _
    refine ex_go (S := (10, [(2, .inl (k + 1)), (0, gx_r 378), (1, gx_r 139)], [], t129, n, 0)) rfl (fun _ => rfl) rfl ?_
    exact ih (k + 1) t129 (by first | decide | omega) g129 (fun c i h => ((e129 c i (by first | decide | omega)).trans ((e126 c i (by first | decide | omega)).trans (e123 c i (by first | decide | omega)))).trans (e0 c i h))
theorem sk_378_139 (d n : Nat) {t0 : en_H} {q : Nat} (g0 : ai_HG ah_G t0) (kq : ai_hv t0 139 0 = some (.inl q)) (hq : q ≤ 8) : ∃ r, en_u (d + 1) 170 [gx_r 378, gx_r 139] t0 n = some r ∧ ∃ t', r = (none, t', n, 0) ∧ ai_HG ah_G t' ∧ (∀ c i, ¬ ((c = 378 ∧ i = 0) ∨ (379 ≤ c ∧ c ≤ 381)) → ai_hv t' c i = ai_hv t0 c i) ∧ ai_hv t' 378 0 = some (.inl q) := by
  refine en_u_ex rfl ?_
  show en_ex _ _ _ _ (0, [(0, gx_r 378), (1, gx_r 139)], [], t0, n, 0) _
  refine ex_go (S := (1, [(0, gx_r 378), (1, gx_r 139)], [gx_r 378], t0, n, 0)) rfl (fun _ => rfl) rfl ?_
  refine ex_go (S := (2, [(0, gx_r 378), (1, gx_r 139)], [gx_r 139, gx_r 378], t0, n, 0)) rfl (fun _ => rfl) rfl ?_
  refine gxo_get (a := 139) rfl g0 rfl rfl kq rfl ?_
  refine gxo_put (a := 378) rfl g0 rfl rfl rfl (ai_in_h (by first | decide | omega) (by first | decide | omega) (by first | decide | omega)) rfl (fun t121 g121 k121 e121 => ?_)
  have k22 : ai_hv t121 139 0 = some (.inl q) := (e121 139 0 (by first | decide | omega)).trans kq
  refine ex_go (S := (9, [(0, gx_r 378), (1, gx_r 139)], [.inl 0], t121, n, 0)) rfl (fun _ => rfl) rfl ?_
  refine ex_go (S := (10, [(2, .inl 0), (0, gx_r 378), (1, gx_r 139)], [], t121, n, 0)) rfl (fun _ => rfl) rfl ?_
  refine sk_l378_139 d n (tb := t121) (fun t123 g123 e123 => ?_) 8 0 _ rfl g121 (fun _ _ _ => rfl)
  have k24 : ai_hv t123 139 0 = some (.inl q) := (e123 139 0 (by first | decide | omega)).trans k22
  have k25 : ai_hv t123 378 0 = some (.inl q) := (e123 378 0 (by first | decide | omega)).trans k121
  refine ex_ret (r := (none, t123, n, 0)) rfl (fun _ => rfl) ?_
  exact ⟨_, rfl, t123, rfl, g123, (fun c i h => (e123 c i (by first | decide | omega)).trans (e121 c i (by first | decide | omega))), k25⟩
theorem sk_l139_378 (d n : Nat) {tb : en_H} {Q : en_O → Prop} (hQ : ∀ t1, ai_HG ah_G t1 → (∀ c i, ¬ (140 ≤ c ∧ c ≤ 142) → ai_hv t1 c i = ai_hv tb c i) → en_ex none (en_u d) (en_code 170) (fun _ => false) (58, [(2, .inl 8), (0, gx_r 139), (1, gx_r 378)], [], t1, n, 0) Q) : ∀ j k t0, k + j = 8 → ai_HG ah_G t0 → (∀ c i, ¬ (140 ≤ c ∧ c ≤ 142) → ai_hv t0 c i = ai_hv tb c i) → en_ex none (en_u d) (en_code 170) (fun _ => false) (10, [(2, .inl k), (0, gx_r 139), (1, gx_r 378)], [], t0, n, 0) Q := by
  intro j
  induction j with
  | zero =>
    intro k t0 hk g0 e0
    have hk : k = 8 := by omega
    subst hk
    refine ex_go (S := (11, [(2, .inl 8), (0, gx_r 139), (1, gx_r 378)], [.inl 8], t0, n, 0)) rfl (fun _ => rfl) rfl ?_
    refine ex_go (S := (13, [(2, .inl 8), (0, gx_r 139), (1, gx_r 378)], [.inl 8, .inl 8], t0, n, 0)) rfl (fun _ => rfl) rfl ?_
    refine ex_go (S := (58, [(2, .inl 8), (0, gx_r 139), (1, gx_r 378)], [], t0, n, 0)) rfl (fun _ => rfl) rfl ?_
    exact hQ t0 g0 e0
  | succ j ih =>
    intro k t0 hk g0 e0
    refine ex_go (S := (11, [(2, .inl k), (0, gx_r 139), (1, gx_r 378)], [.inl k], t0, n, 0)) rfl (fun _ => rfl) rfl ?_
    refine ex_go (S := (13, [(2, .inl k), (0, gx_r 139), (1, gx_r 378)], [.inl 8, .inl k], t0, n, 0)) rfl (fun _ => rfl) rfl ?_
    refine gx_2f (c := .ge) rfl (by first | decide | omega) (by first | decide | omega) (show ¬ (8 ≤ k) from by omega) rfl ?_
    refine ex_go (S := (17, [(2, .inl k), (0, gx_r 139), (1, gx_r 378)], [gx_r 139], t0, n, 0)) rfl (fun _ => rfl) rfl ?_
    refine gxo_ref (a := 139) (c := 140) rfl g0 rfl rfl rfl rfl rfl ?_
    refine ex_go (S := (21, [(2, .inl k), (0, gx_r 139), (1, gx_r 378)], [.inl k, gx_r 140], t0, n, 0)) rfl (fun _ => rfl) rfl ?_
    refine ex_go (S := (22, [(2, .inl k), (0, gx_r 139), (1, gx_r 378)], [gx_r 378, .inl k, gx_r 140], t0, n, 0)) rfl (fun _ => rfl) rfl ?_
    refine gxo_ref (a := 378) (c := 379) rfl g0 rfl rfl rfl rfl rfl ?_
    refine ex_go (S := (26, [(2, .inl k), (0, gx_r 139), (1, gx_r 378)], [.inl k, gx_r 379, .inl k, gx_r 140], t0, n, 0)) rfl (fun _ => rfl) rfl ?_
    obtain ⟨m21, k22, m21a, m21b, m21c⟩ := st_ld (c := 379) (i := k) g0 rfl (by first | decide | omega)
    refine gx_ag (v := .inl m21) (cb := fun c => Nat.beq c 0) rfl (fun _ => rfl) g0 rfl rfl k22 (by first | decide | omega) rfl ?_
    refine gx_ap rfl (fun _ => rfl) g0 rfl rfl rfl (show k < 8 by omega) (gx_run1 (show k < 8 by omega)) (st_rh m21a m21b m21c) rfl (fun t123 g123 k123 e123 => ?_)
    refine ex_go (S := (29, [(2, .inl k), (0, gx_r 139), (1, gx_r 378)], [gx_r 139], t123, n, 0)) rfl (fun _ => rfl) rfl ?_
    refine gxo_ref (a := 139) (c := 141) rfl g123 rfl rfl rfl rfl rfl ?_
    refine ex_go (S := (33, [(2, .inl k), (0, gx_r 139), (1, gx_r 378)], [.inl k, gx_r 141], t123, n, 0)) rfl (fun _ => rfl) rfl ?_
    refine ex_go (S := (34, [(2, .inl k), (0, gx_r 139), (1, gx_r 378)], [gx_r 378, .inl k, gx_r 141], t123, n, 0)) rfl (fun _ => rfl) rfl ?_
    refine gxo_ref (a := 378) (c := 380) rfl g123 rfl rfl rfl rfl rfl ?_
    refine ex_go (S := (38, [(2, .inl k), (0, gx_r 139), (1, gx_r 378)], [.inl k, gx_r 380, .inl k, gx_r 141], t123, n, 0)) rfl (fun _ => rfl) rfl ?_
    obtain ⟨m24, k25, m24a, m24b, m24c⟩ := st_ld (c := 380) (i := k) g123 rfl (by first | decide | omega)
    refine gx_ag (v := .inl m24) (cb := fun c => Nat.beq c 0) rfl (fun _ => rfl) g123 rfl rfl k25 (by first | decide | omega) rfl ?_
    refine gx_ap rfl (fun _ => rfl) g123 rfl rfl rfl (show k < 8 by omega) (gx_run1 (show k < 8 by omega)) (st_rh m24a m24b m24c) rfl (fun t126 g126 k126 e126 => ?_)
    refine ex_go (S := (41, [(2, .inl k), (0, gx_r 139), (1, gx_r 378)], [gx_r 139], t126, n, 0)) rfl (fun _ => rfl) rfl ?_
    refine gxo_ref (a := 139) (c := 142) rfl g126 rfl rfl rfl rfl rfl ?_
    refine ex_go (S := (45, [(2, .inl k), (0, gx_r 139), (1, gx_r 378)], [.inl k, gx_r 142], t126, n, 0)) rfl (fun _ => rfl) rfl ?_
    refine ex_go (S := (46, [(2, .inl k), (0, gx_r 139), (1, gx_r 378)], [gx_r 378, .inl k, gx_r 142], t126, n, 0)) rfl (fun _ => rfl) rfl ?_
    refine gxo_ref (a := 378) (c := 381) rfl g126 rfl rfl rfl rfl rfl ?_
    refine ex_go (S := (50, [(2, .inl k), (0, gx_r 139), (1, gx_r 378)], [.inl k, gx_r 381, .inl k, gx_r 142], t126, n, 0)) rfl (fun _ => rfl) rfl ?_
    obtain ⟨m27, k28, m27a, m27b, m27c⟩ := st_ld (c := 381) (i := k) g126 rfl (by first | decide | omega)
    refine gx_ag (v := .inl m27) (cb := fun c => Nat.beq c 0) rfl (fun _ => rfl) g126 rfl rfl k28 (by first | decide | omega) rfl ?_
    refine gx_ap rfl (fun _ => rfl) g126 rfl rfl rfl (show k < 8 by omega) (gx_run1 (show k < 8 by omega)) (st_rh m27a m27b m27c) rfl (fun t129 g129 k129 e129 => ?_)
    refine gx_iinc (i := 2) (k := 1) rfl (fun _ => rfl) (by first | decide | omega) rfl ?_
    show en_ex _ _ _ _ (55, [(2, .inl (k + 1)), (0, gx_r 139), (1, gx_r 378)], [], t129, n, 0) _
    refine ex_go (S := (10, [(2, .inl (k + 1)), (0, gx_r 139), (1, gx_r 378)], [], t129, n, 0)) rfl (fun _ => rfl) rfl ?_
    exact ih (k + 1) t129 (by first | decide | omega) g129 (fun c i h => ((e129 c i (by first | decide | omega)).trans ((e126 c i (by first | decide | omega)).trans (e123 c i (by first | decide | omega)))).trans (e0 c i h))
theorem sk_139_378 (d n : Nat) {t0 : en_H} {q : Nat} (g0 : ai_HG ah_G t0) (kq : ai_hv t0 378 0 = some (.inl q)) (hq : q ≤ 8) : ∃ r, en_u (d + 1) 170 [gx_r 139, gx_r 378] t0 n = some r ∧ ∃ t', r = (none, t', n, 0) ∧ ai_HG ah_G t' ∧ (∀ c i, ¬ ((c = 139 ∧ i = 0) ∨ (140 ≤ c ∧ c ≤ 142)) → ai_hv t' c i = ai_hv t0 c i) ∧ ai_hv t' 139 0 = some (.inl q) := by
  refine en_u_ex rfl ?_
  show en_ex _ _ _ _ (0, [(0, gx_r 139), (1, gx_r 378)], [], t0, n, 0) _
  refine ex_go (S := (1, [(0, gx_r 139), (1, gx_r 378)], [gx_r 139], t0, n, 0)) rfl (fun _ => rfl) rfl ?_
  refine ex_go (S := (2, [(0, gx_r 139), (1, gx_r 378)], [gx_r 378, gx_r 139], t0, n, 0)) rfl (fun _ => rfl) rfl ?_
  refine gxo_get (a := 378) rfl g0 rfl rfl kq rfl ?_
  refine gxo_put (a := 139) rfl g0 rfl rfl rfl (ai_in_h (by first | decide | omega) (by first | decide | omega) (by first | decide | omega)) rfl (fun t121 g121 k121 e121 => ?_)
  have k22 : ai_hv t121 378 0 = some (.inl q) := (e121 378 0 (by first | decide | omega)).trans kq
  refine ex_go (S := (9, [(0, gx_r 139), (1, gx_r 378)], [.inl 0], t121, n, 0)) rfl (fun _ => rfl) rfl ?_
  refine ex_go (S := (10, [(2, .inl 0), (0, gx_r 139), (1, gx_r 378)], [], t121, n, 0)) rfl (fun _ => rfl) rfl ?_
  refine sk_l139_378 d n (tb := t121) (fun t123 g123 e123 => ?_) 8 0 _ rfl g121 (fun _ _ _ => rfl)
  have k24 : ai_hv t123 378 0 = some (.inl q) := (e123 378 0 (by first | decide | omega)).trans k22
  have k25 : ai_hv t123 139 0 = some (.inl q) := (e123 139 0 (by first | decide | omega)).trans k121
  refine ex_ret (r := (none, t123, n, 0)) rfl (fun _ => rfl) ?_
  exact ⟨_, rfl, t123, rfl, g123, (fun c i h => (e123 c i (by first | decide | omega)).trans (e121 c i (by first | decide | omega))), k25⟩
theorem sc_mark (d n : Nat) {t0 : en_H} {T K u q m b : Nat} {σ F v : Nat → Nat} {τ μ : Nat → Nat → Nat} (g0 : ai_HG ah_G t0) (hm : m < 4294967296) (hb : b ≤ 1) (hT : T ≤ 6) (hK : K ≤ 2) (hF : ∀ i, i < 4 → F i ≤ 1) (hq : q ≤ 8) (hv : ∀ i, i < 4 → F i = 1 → v i ≤ 8) (hS : CS t0 T K σ u τ F μ q v) : ∃ r, en_u (d + 2) 83 [gx_r 0, .inl m, .inl b] t0 n = some r ∧ ∃ z t', r = (some (.inl z), t', n, 0) ∧ ai_HG ah_G t' ∧ (∀ c i, ¬ ((8 ≤ c ∧ c ≤ 14) ∨ (c = 22 ∧ 1 ≤ i) ∨ (138 ≤ c ∧ c ≤ 142) ∨ (335 ≤ c ∧ c ≤ 382)) → ai_hv t' c i = ai_hv t0 c i) ∧ (¬ (m ≤ 3 ∧ (b = 0 ∨ F m = 1)) → z = 0 ∧ CS t' T K σ u τ F μ q v) ∧ (m ≤ 3 ∧ b = 0 → z = 1 ∧ CS t' T K σ u τ (up1 F m 1) (up1 μ m σ) q (up1 v m q)) ∧ (m ≤ 3 ∧ b = 1 ∧ F m = 1 → z = 1 ∧ CS t' T K (μ m) 0 τ F μ (v m) v) := by
  have hS0 := hS
  obtain ⟨h1, h2, ⟨o, h3, h4, h5, h6⟩, h7⟩ := hS
  refine en_u_ex (d := d + 1) rfl ?_
  show en_ex _ _ _ _ (0, [(0, gx_r 0), (1, .inl m), (2, .inl b)], [], t0, n, 0) _
  refine ex_go (S := (1, [(0, gx_r 0), (1, .inl m), (2, .inl b)], [.inl m], t0, n, 0)) rfl (fun _ => rfl) rfl ?_
  refine ex_go (S := (2, [(0, gx_r 0), (1, .inl m), (2, .inl b)], [.inl 0, .inl m], t0, n, 0)) rfl (fun _ => rfl) rfl ?_
  refine ex_go (S := (3, [(0, gx_r 0), (1, .inl m), (2, .inl b)], [.inl 3, .inl 0, .inl m], t0, n, 0)) rfl (fun _ => rfl) rfl ?_
  obtain ⟨_, r21, b22, rfl, b22b, q23⟩ := pz_isWithin (d) n (t0 := t0) (x := m) (lo := 0) (hi := 3) (by first | decide | omega) (by first | decide | omega) (by first | decide | omega)
  refine ex_stat rfl rfl rfl rfl rfl r21 (Nat.le_refl _) rfl ?_
  show en_ex _ _ _ _ (6, [(0, gx_r 0), (1, .inl m), (2, .inl b)], [.inl b22], t0, n, 0) _
  by_cases hc24 : b22 = 0
  · refine gx_1t (c := .eq) rfl (by first | decide | omega) hc24 rfl ?_
    refine ex_go (S := (23, [(0, gx_r 0), (1, .inl m), (2, .inl b)], [.inl 0], t0, n, 0)) rfl (fun _ => rfl) rfl ?_
    refine ex_ret (r := (some (.inl 0), t0, n, 0)) rfl (fun _ => rfl) ?_
    exact ⟨_, rfl, 0, t0, rfl, g0, (fun _ _ _ => rfl), (fun _ => ⟨rfl, hS0⟩), (fun z => by omega), fun z => by omega⟩
  · refine gx_1f (c := .eq) rfl (by first | decide | omega) hc24 rfl ?_
    refine ex_go (S := (10, [(0, gx_r 0), (1, .inl m), (2, .inl b)], [.inl b], t0, n, 0)) rfl (fun _ => rfl) rfl ?_
    by_cases hc25 : b = 0
    · refine gx_1t (c := .eq) rfl (by first | decide | omega) hc25 rfl ?_
      rcases (show m = 0 ∨ m = 1 ∨ m = 2 ∨ m = 3 by omega) with rfl | rfl | rfl | rfl
      · refine ex_go (S := (25, [(0, gx_r 0), (1, .inl 0), (2, .inl b)], [.inl b], t0, n, 0)) rfl (fun _ => rfl) rfl ?_
        by_cases hc26 : b = 0
        · refine gx_1t (c := .eq) rfl (by first | decide | omega) hc26 rfl ?_
          refine ex_go (S := (65, [(0, gx_r 0), (1, .inl 0), (2, .inl b)], [gx_r 0], t0, n, 0)) rfl (fun _ => rfl) rfl ?_
          refine gxo_ref (a := 0) (c := 136) rfl g0 rfl rfl rfl rfl rfl ?_
          refine ex_go (S := (69, [(0, gx_r 0), (1, .inl 0), (2, .inl b)], [.inl 0, gx_r 136], t0, n, 0)) rfl (fun _ => rfl) rfl ?_
          refine gx_ag (v := gx_r 335) (cb := fun c => Nat.ble 4 c && Nat.ble c 7) rfl (fun _ => rfl) g0 rfl rfl (gx_slr g0 rfl (by decide) rfl) (by first | decide | omega) rfl ?_
          refine ex_go (S := (71, [(0, gx_r 0), (1, .inl 0), (2, .inl b)], [gx_r 0, gx_r 335], t0, n, 0)) rfl (fun _ => rfl) rfl ?_
          refine gxo_ref (a := 0) (c := 8) rfl g0 rfl rfl rfl rfl rfl ?_
          obtain ⟨_, r127, t127, rfl, g127, e127, y127a, y127b, y127c⟩ := sc_take d n (A := 335) (B := 8) g0 StA_335 StA_8 (by unfold StD; omega)
          refine gx_callo (a := 335) rfl rfl g0 rfl rfl rfl r127 rfl ?_
          show en_ex _ _ _ _ (77, [(0, gx_r 0), (1, .inl 0), (2, .inl b)], [], t127, n, 0) _
          refine ex_go (S := (78, [(0, gx_r 0), (1, .inl 0), (2, .inl b)], [gx_r 0], t127, n, 0)) rfl (fun _ => rfl) rfl ?_
          refine gxo_ref (a := 0) (c := 137) rfl g127 rfl rfl rfl rfl rfl ?_
          refine ex_go (S := (82, [(0, gx_r 0), (1, .inl 0), (2, .inl b)], [.inl 0, gx_r 137], t127, n, 0)) rfl (fun _ => rfl) rfl ?_
          refine gx_ag (v := gx_r 342) (cb := fun c => Nat.ble 4 c && Nat.ble c 7) rfl (fun _ => rfl) g127 rfl rfl (gx_slr g127 rfl (by decide) rfl) (by first | decide | omega) rfl ?_
          refine ex_go (S := (84, [(0, gx_r 0), (1, .inl 0), (2, .inl b)], [gx_r 0, gx_r 342], t127, n, 0)) rfl (fun _ => rfl) rfl ?_
          refine gxo_ref (a := 0) (c := 139) rfl g127 rfl rfl rfl rfl rfl ?_
          obtain ⟨_, r128, t128, rfl, g128, e128, w128⟩ := sk_342_139 d n g127 ((e127 139 0 (by first | decide | omega)).trans (h2)) hq
          refine gx_callo (a := 342) rfl rfl g127 rfl rfl rfl r128 rfl ?_
          show en_ex _ _ _ _ (90, [(0, gx_r 0), (1, .inl 0), (2, .inl b)], [], t128, n, 0) _
          refine ex_go (S := (91, [(0, gx_r 0), (1, .inl 0), (2, .inl b)], [gx_r 0], t128, n, 0)) rfl (fun _ => rfl) rfl ?_
          refine gxo_ref (a := 0) (c := 138) rfl g128 rfl rfl rfl rfl rfl ?_
          refine ex_go (S := (95, [(0, gx_r 0), (1, .inl 0), (2, .inl b)], [.inl 0, gx_r 138], t128, n, 0)) rfl (fun _ => rfl) rfl ?_
          refine ex_go (S := (96, [(0, gx_r 0), (1, .inl 0), (2, .inl b)], [.inl 1, .inl 0, gx_r 138], t128, n, 0)) rfl (fun _ => rfl) rfl ?_
          refine gx_apv (d := 2) rfl (fun _ => rfl) g128 rfl rfl rfl (show 0 < 4 from by omega) rfl (ai_in_h (by first | decide | omega) (by first | decide | omega) (by first | decide | omega)) rfl (fun t129 g129 k129 e129 => ?_)
          refine ex_go (S := (98, [(0, gx_r 0), (1, .inl 0), (2, .inl b)], [.inl 1], t129, n, 0)) rfl (fun _ => rfl) rfl ?_
          refine ex_ret (r := (some (.inl 1), t129, n, 0)) rfl (fun _ => rfl) ?_
          refine ⟨_, rfl, 1, t129, rfl, g129, (fun c i h => (e129 c i (by first | decide | omega)).trans ((e128 c i (by first | decide | omega)).trans (e127 c i (by first | decide | omega)))), (fun z => absurd ⟨by decide, Or.inl (by first | decide | omega)⟩ z), (fun _ => ⟨rfl, SC_keep h1 (fun c i a b => (e129 c i (by first | decide | omega)).trans ((e128 c i (by first | decide | omega)).trans (e127 c i (by first | decide | omega)))), (e129 139 0 (by first | decide | omega)).trans ((e128 139 0 (by first | decide | omega)).trans ((e127 139 0 (by first | decide | omega)).trans (h2))), ⟨o, h3, (e129 22 1 (by first | decide | omega)).trans ((e128 22 1 (by first | decide | omega)).trans ((e127 22 1 (by first | decide | omega)).trans (h4))), (e129 22 2 (by first | decide | omega)).trans ((e128 22 2 (by first | decide | omega)).trans ((e127 22 2 (by first | decide | omega)).trans (h5))), fun k hk => SC_keep (h6 k hk) (fun c i a b => (e129 c i (by first | decide | omega)).trans ((e128 c i (by first | decide | omega)).trans (e127 c i (by first | decide | omega))))⟩, fun m9 hm9 => ?_⟩), fun z => by omega⟩
          by_cases e9 : m9 = 0
          · subst e9
            rw [up1_t, up1_t, up1_t]
            exact ⟨k129, fun _ => ⟨SC_keep (SC_take h1 hT hK y127a y127b y127c) (fun c i a b => (e129 c i (by first | decide | omega)).trans (e128 c i (by first | decide | omega))), (e129 342 0 (by first | decide | omega)).trans (w128)⟩⟩
          · rw [up1_f e9, up1_f e9, up1_f e9]
            exact ⟨(e129 138 m9 (by first | decide | omega)).trans ((e128 138 m9 (by first | decide | omega)).trans ((e127 138 m9 (by first | decide | omega)).trans ((h7 m9 hm9).1))), fun z => ⟨SC_keep ((h7 m9 hm9).2 z).1 (fun c i a b => (e129 c i (by first | decide | omega)).trans ((e128 c i (by first | decide | omega)).trans (e127 c i (by first | decide | omega)))), ((e129 _ _ (by first | decide | omega)).trans ((e128 _ _ (by first | decide | omega)).trans (e127 _ _ (by first | decide | omega)))).trans ((h7 m9 hm9).2 z).2⟩⟩
        · refine gx_1f (c := .eq) rfl (by first | decide | omega) hc26 rfl ?_
          refine ex_go (S := (29, [(0, gx_r 0), (1, .inl 0), (2, .inl b)], [gx_r 0], t0, n, 0)) rfl (fun _ => rfl) rfl ?_
          refine gxo_ref (a := 0) (c := 8) rfl g0 rfl rfl rfl rfl rfl ?_
          refine ex_go (S := (33, [(0, gx_r 0), (1, .inl 0), (2, .inl b)], [gx_r 0, gx_r 8], t0, n, 0)) rfl (fun _ => rfl) rfl ?_
          refine gxo_ref (a := 0) (c := 136) rfl g0 rfl rfl rfl rfl rfl ?_
          refine ex_go (S := (37, [(0, gx_r 0), (1, .inl 0), (2, .inl b)], [.inl 0, gx_r 136, gx_r 8], t0, n, 0)) rfl (fun _ => rfl) rfl ?_
          refine gx_ag (v := gx_r 335) (cb := fun c => Nat.ble 4 c && Nat.ble c 7) rfl (fun _ => rfl) g0 rfl rfl (gx_slr g0 rfl (by decide) rfl) (by first | decide | omega) rfl ?_
          obtain ⟨_, r130, t130, rfl, g130, e130, y130a, y130b, y130c⟩ := sc_take d n (A := 8) (B := 335) g0 StA_8 StA_335 (by unfold StD; omega)
          refine gx_callo (a := 8) rfl rfl g0 rfl rfl rfl r130 rfl ?_
          show en_ex _ _ _ _ (41, [(0, gx_r 0), (1, .inl 0), (2, .inl b)], [], t130, n, 0) _
          refine ex_go (S := (42, [(0, gx_r 0), (1, .inl 0), (2, .inl b)], [gx_r 0], t130, n, 0)) rfl (fun _ => rfl) rfl ?_
          refine gxo_ref (a := 0) (c := 139) rfl g130 rfl rfl rfl rfl rfl ?_
          refine ex_go (S := (46, [(0, gx_r 0), (1, .inl 0), (2, .inl b)], [gx_r 0, gx_r 139], t130, n, 0)) rfl (fun _ => rfl) rfl ?_
          refine gxo_ref (a := 0) (c := 137) rfl g130 rfl rfl rfl rfl rfl ?_
          refine ex_go (S := (50, [(0, gx_r 0), (1, .inl 0), (2, .inl b)], [.inl 0, gx_r 137, gx_r 139], t130, n, 0)) rfl (fun _ => rfl) rfl ?_
          refine gx_ag (v := gx_r 342) (cb := fun c => Nat.ble 4 c && Nat.ble c 7) rfl (fun _ => rfl) g130 rfl rfl (gx_slr g130 rfl (by decide) rfl) (by first | decide | omega) rfl ?_
          obtain ⟨_, r131, t131, rfl, g131, e131, w131⟩ := sk_139_342 d n g130 ((e130 342 0 (by first | decide | omega)).trans (((h7 0 (by decide)).2 (by first | decide | omega)).2)) (hv 0 (by decide) (by first | decide | omega))
          refine gx_callo (a := 139) rfl rfl g130 rfl rfl rfl r131 rfl ?_
          show en_ex _ _ _ _ (54, [(0, gx_r 0), (1, .inl 0), (2, .inl b)], [], t131, n, 0) _
          refine ex_go (S := (55, [(0, gx_r 0), (1, .inl 0), (2, .inl b)], [gx_r 0], t131, n, 0)) rfl (fun _ => rfl) rfl ?_
          refine gxo_ref (a := 0) (c := 22) rfl g131 rfl rfl rfl rfl rfl ?_
          obtain ⟨_, r132, t132, rfl, g132, e132, ka132, kb132⟩ := pz_pclear d n g131
          refine gx_callo (a := 22) rfl rfl g131 rfl rfl rfl r132 rfl ?_
          show en_ex _ _ _ _ (61, [(0, gx_r 0), (1, .inl 0), (2, .inl b)], [], t132, n, 0) _
          refine ex_go (S := (97, [(0, gx_r 0), (1, .inl 0), (2, .inl b)], [], t132, n, 0)) rfl (fun _ => rfl) rfl ?_
          refine ex_go (S := (98, [(0, gx_r 0), (1, .inl 0), (2, .inl b)], [.inl 1], t132, n, 0)) rfl (fun _ => rfl) rfl ?_
          refine ex_ret (r := (some (.inl 1), t132, n, 0)) rfl (fun _ => rfl) ?_
          refine ⟨_, rfl, 1, t132, rfl, g132, (fun c i h => (e132 c i (by first | decide | omega)).trans ((e131 c i (by first | decide | omega)).trans (e130 c i (by first | decide | omega)))), (fun z => absurd ⟨by decide, Or.inr (by first | decide | omega)⟩ z), (fun z => by omega), fun _ => ⟨rfl, SC_keep (SC_take ((h7 0 (by decide)).2 (by first | decide | omega)).1 hT hK y130a y130b y130c) (fun c i a b => (e132 c i (by first | decide | omega)).trans (e131 c i (by first | decide | omega))), (e132 139 0 (by first | decide | omega)).trans (w131), ⟨0, by decide, ka132, kb132, fun k hk => absurd hk (Nat.not_lt_zero k)⟩, fun m9 hm9 => ⟨(e132 138 m9 (by first | decide | omega)).trans ((e131 138 m9 (by first | decide | omega)).trans ((e130 138 m9 (by first | decide | omega)).trans ((h7 m9 hm9).1))), fun z => ⟨SC_keep ((h7 m9 hm9).2 z).1 (fun c i a b => (e132 c i (by first | decide | omega)).trans ((e131 c i (by first | decide | omega)).trans (e130 c i (by first | decide | omega)))), ((e132 _ _ (by first | decide | omega)).trans ((e131 _ _ (by first | decide | omega)).trans (e130 _ _ (by first | decide | omega)))).trans ((h7 m9 hm9).2 z).2⟩⟩⟩⟩
      · refine ex_go (S := (25, [(0, gx_r 0), (1, .inl 1), (2, .inl b)], [.inl b], t0, n, 0)) rfl (fun _ => rfl) rfl ?_
        by_cases hc33 : b = 0
        · refine gx_1t (c := .eq) rfl (by first | decide | omega) hc33 rfl ?_
          refine ex_go (S := (65, [(0, gx_r 0), (1, .inl 1), (2, .inl b)], [gx_r 0], t0, n, 0)) rfl (fun _ => rfl) rfl ?_
          refine gxo_ref (a := 0) (c := 136) rfl g0 rfl rfl rfl rfl rfl ?_
          refine ex_go (S := (69, [(0, gx_r 0), (1, .inl 1), (2, .inl b)], [.inl 1, gx_r 136], t0, n, 0)) rfl (fun _ => rfl) rfl ?_
          refine gx_ag (v := gx_r 347) (cb := fun c => Nat.ble 4 c && Nat.ble c 7) rfl (fun _ => rfl) g0 rfl rfl (gx_slr g0 rfl (by decide) rfl) (by first | decide | omega) rfl ?_
          refine ex_go (S := (71, [(0, gx_r 0), (1, .inl 1), (2, .inl b)], [gx_r 0, gx_r 347], t0, n, 0)) rfl (fun _ => rfl) rfl ?_
          refine gxo_ref (a := 0) (c := 8) rfl g0 rfl rfl rfl rfl rfl ?_
          obtain ⟨_, r134, t134, rfl, g134, e134, y134a, y134b, y134c⟩ := sc_take d n (A := 347) (B := 8) g0 StA_347 StA_8 (by unfold StD; omega)
          refine gx_callo (a := 347) rfl rfl g0 rfl rfl rfl r134 rfl ?_
          show en_ex _ _ _ _ (77, [(0, gx_r 0), (1, .inl 1), (2, .inl b)], [], t134, n, 0) _
          refine ex_go (S := (78, [(0, gx_r 0), (1, .inl 1), (2, .inl b)], [gx_r 0], t134, n, 0)) rfl (fun _ => rfl) rfl ?_
          refine gxo_ref (a := 0) (c := 137) rfl g134 rfl rfl rfl rfl rfl ?_
          refine ex_go (S := (82, [(0, gx_r 0), (1, .inl 1), (2, .inl b)], [.inl 1, gx_r 137], t134, n, 0)) rfl (fun _ => rfl) rfl ?_
          refine gx_ag (v := gx_r 354) (cb := fun c => Nat.ble 4 c && Nat.ble c 7) rfl (fun _ => rfl) g134 rfl rfl (gx_slr g134 rfl (by decide) rfl) (by first | decide | omega) rfl ?_
          refine ex_go (S := (84, [(0, gx_r 0), (1, .inl 1), (2, .inl b)], [gx_r 0, gx_r 354], t134, n, 0)) rfl (fun _ => rfl) rfl ?_
          refine gxo_ref (a := 0) (c := 139) rfl g134 rfl rfl rfl rfl rfl ?_
          obtain ⟨_, r135, t135, rfl, g135, e135, w135⟩ := sk_354_139 d n g134 ((e134 139 0 (by first | decide | omega)).trans (h2)) hq
          refine gx_callo (a := 354) rfl rfl g134 rfl rfl rfl r135 rfl ?_
          show en_ex _ _ _ _ (90, [(0, gx_r 0), (1, .inl 1), (2, .inl b)], [], t135, n, 0) _
          refine ex_go (S := (91, [(0, gx_r 0), (1, .inl 1), (2, .inl b)], [gx_r 0], t135, n, 0)) rfl (fun _ => rfl) rfl ?_
          refine gxo_ref (a := 0) (c := 138) rfl g135 rfl rfl rfl rfl rfl ?_
          refine ex_go (S := (95, [(0, gx_r 0), (1, .inl 1), (2, .inl b)], [.inl 1, gx_r 138], t135, n, 0)) rfl (fun _ => rfl) rfl ?_
          refine ex_go (S := (96, [(0, gx_r 0), (1, .inl 1), (2, .inl b)], [.inl 1, .inl 1, gx_r 138], t135, n, 0)) rfl (fun _ => rfl) rfl ?_
          refine gx_apv (d := 2) rfl (fun _ => rfl) g135 rfl rfl rfl (show 1 < 4 from by omega) rfl (ai_in_h (by first | decide | omega) (by first | decide | omega) (by first | decide | omega)) rfl (fun t136 g136 k136 e136 => ?_)
          refine ex_go (S := (98, [(0, gx_r 0), (1, .inl 1), (2, .inl b)], [.inl 1], t136, n, 0)) rfl (fun _ => rfl) rfl ?_
          refine ex_ret (r := (some (.inl 1), t136, n, 0)) rfl (fun _ => rfl) ?_
          refine ⟨_, rfl, 1, t136, rfl, g136, (fun c i h => (e136 c i (by first | decide | omega)).trans ((e135 c i (by first | decide | omega)).trans (e134 c i (by first | decide | omega)))), (fun z => absurd ⟨by decide, Or.inl (by first | decide | omega)⟩ z), (fun _ => ⟨rfl, SC_keep h1 (fun c i a b => (e136 c i (by first | decide | omega)).trans ((e135 c i (by first | decide | omega)).trans (e134 c i (by first | decide | omega)))), (e136 139 0 (by first | decide | omega)).trans ((e135 139 0 (by first | decide | omega)).trans ((e134 139 0 (by first | decide | omega)).trans (h2))), ⟨o, h3, (e136 22 1 (by first | decide | omega)).trans ((e135 22 1 (by first | decide | omega)).trans ((e134 22 1 (by first | decide | omega)).trans (h4))), (e136 22 2 (by first | decide | omega)).trans ((e135 22 2 (by first | decide | omega)).trans ((e134 22 2 (by first | decide | omega)).trans (h5))), fun k hk => SC_keep (h6 k hk) (fun c i a b => (e136 c i (by first | decide | omega)).trans ((e135 c i (by first | decide | omega)).trans (e134 c i (by first | decide | omega))))⟩, fun m9 hm9 => ?_⟩), fun z => by omega⟩
          by_cases e9 : m9 = 1
          · subst e9
            rw [up1_t, up1_t, up1_t]
            exact ⟨k136, fun _ => ⟨SC_keep (SC_take h1 hT hK y134a y134b y134c) (fun c i a b => (e136 c i (by first | decide | omega)).trans (e135 c i (by first | decide | omega))), (e136 354 0 (by first | decide | omega)).trans (w135)⟩⟩
          · rw [up1_f e9, up1_f e9, up1_f e9]
            exact ⟨(e136 138 m9 (by first | decide | omega)).trans ((e135 138 m9 (by first | decide | omega)).trans ((e134 138 m9 (by first | decide | omega)).trans ((h7 m9 hm9).1))), fun z => ⟨SC_keep ((h7 m9 hm9).2 z).1 (fun c i a b => (e136 c i (by first | decide | omega)).trans ((e135 c i (by first | decide | omega)).trans (e134 c i (by first | decide | omega)))), ((e136 _ _ (by first | decide | omega)).trans ((e135 _ _ (by first | decide | omega)).trans (e134 _ _ (by first | decide | omega)))).trans ((h7 m9 hm9).2 z).2⟩⟩
        · refine gx_1f (c := .eq) rfl (by first | decide | omega) hc33 rfl ?_
          refine ex_go (S := (29, [(0, gx_r 0), (1, .inl 1), (2, .inl b)], [gx_r 0], t0, n, 0)) rfl (fun _ => rfl) rfl ?_
          refine gxo_ref (a := 0) (c := 8) rfl g0 rfl rfl rfl rfl rfl ?_
          refine ex_go (S := (33, [(0, gx_r 0), (1, .inl 1), (2, .inl b)], [gx_r 0, gx_r 8], t0, n, 0)) rfl (fun _ => rfl) rfl ?_
          refine gxo_ref (a := 0) (c := 136) rfl g0 rfl rfl rfl rfl rfl ?_
          refine ex_go (S := (37, [(0, gx_r 0), (1, .inl 1), (2, .inl b)], [.inl 1, gx_r 136, gx_r 8], t0, n, 0)) rfl (fun _ => rfl) rfl ?_
          refine gx_ag (v := gx_r 347) (cb := fun c => Nat.ble 4 c && Nat.ble c 7) rfl (fun _ => rfl) g0 rfl rfl (gx_slr g0 rfl (by decide) rfl) (by first | decide | omega) rfl ?_
          obtain ⟨_, r137, t137, rfl, g137, e137, y137a, y137b, y137c⟩ := sc_take d n (A := 8) (B := 347) g0 StA_8 StA_347 (by unfold StD; omega)
          refine gx_callo (a := 8) rfl rfl g0 rfl rfl rfl r137 rfl ?_
          show en_ex _ _ _ _ (41, [(0, gx_r 0), (1, .inl 1), (2, .inl b)], [], t137, n, 0) _
          refine ex_go (S := (42, [(0, gx_r 0), (1, .inl 1), (2, .inl b)], [gx_r 0], t137, n, 0)) rfl (fun _ => rfl) rfl ?_
          refine gxo_ref (a := 0) (c := 139) rfl g137 rfl rfl rfl rfl rfl ?_
          refine ex_go (S := (46, [(0, gx_r 0), (1, .inl 1), (2, .inl b)], [gx_r 0, gx_r 139], t137, n, 0)) rfl (fun _ => rfl) rfl ?_
          refine gxo_ref (a := 0) (c := 137) rfl g137 rfl rfl rfl rfl rfl ?_
          refine ex_go (S := (50, [(0, gx_r 0), (1, .inl 1), (2, .inl b)], [.inl 1, gx_r 137, gx_r 139], t137, n, 0)) rfl (fun _ => rfl) rfl ?_
          refine gx_ag (v := gx_r 354) (cb := fun c => Nat.ble 4 c && Nat.ble c 7) rfl (fun _ => rfl) g137 rfl rfl (gx_slr g137 rfl (by decide) rfl) (by first | decide | omega) rfl ?_
          obtain ⟨_, r138, t138, rfl, g138, e138, w138⟩ := sk_139_354 d n g137 ((e137 354 0 (by first | decide | omega)).trans (((h7 1 (by decide)).2 (by first | decide | omega)).2)) (hv 1 (by decide) (by first | decide | omega))
          refine gx_callo (a := 139) rfl rfl g137 rfl rfl rfl r138 rfl ?_
          show en_ex _ _ _ _ (54, [(0, gx_r 0), (1, .inl 1), (2, .inl b)], [], t138, n, 0) _
          refine ex_go (S := (55, [(0, gx_r 0), (1, .inl 1), (2, .inl b)], [gx_r 0], t138, n, 0)) rfl (fun _ => rfl) rfl ?_
          refine gxo_ref (a := 0) (c := 22) rfl g138 rfl rfl rfl rfl rfl ?_
          obtain ⟨_, r139, t139, rfl, g139, e139, ka139, kb139⟩ := pz_pclear d n g138
          refine gx_callo (a := 22) rfl rfl g138 rfl rfl rfl r139 rfl ?_
          show en_ex _ _ _ _ (61, [(0, gx_r 0), (1, .inl 1), (2, .inl b)], [], t139, n, 0) _
          refine ex_go (S := (97, [(0, gx_r 0), (1, .inl 1), (2, .inl b)], [], t139, n, 0)) rfl (fun _ => rfl) rfl ?_
          refine ex_go (S := (98, [(0, gx_r 0), (1, .inl 1), (2, .inl b)], [.inl 1], t139, n, 0)) rfl (fun _ => rfl) rfl ?_
          refine ex_ret (r := (some (.inl 1), t139, n, 0)) rfl (fun _ => rfl) ?_
          refine ⟨_, rfl, 1, t139, rfl, g139, (fun c i h => (e139 c i (by first | decide | omega)).trans ((e138 c i (by first | decide | omega)).trans (e137 c i (by first | decide | omega)))), (fun z => absurd ⟨by decide, Or.inr (by first | decide | omega)⟩ z), (fun z => by omega), fun _ => ⟨rfl, SC_keep (SC_take ((h7 1 (by decide)).2 (by first | decide | omega)).1 hT hK y137a y137b y137c) (fun c i a b => (e139 c i (by first | decide | omega)).trans (e138 c i (by first | decide | omega))), (e139 139 0 (by first | decide | omega)).trans (w138), ⟨0, by decide, ka139, kb139, fun k hk => absurd hk (Nat.not_lt_zero k)⟩, fun m9 hm9 => ⟨(e139 138 m9 (by first | decide | omega)).trans ((e138 138 m9 (by first | decide | omega)).trans ((e137 138 m9 (by first | decide | omega)).trans ((h7 m9 hm9).1))), fun z => ⟨SC_keep ((h7 m9 hm9).2 z).1 (fun c i a b => (e139 c i (by first | decide | omega)).trans ((e138 c i (by first | decide | omega)).trans (e137 c i (by first | decide | omega)))), ((e139 _ _ (by first | decide | omega)).trans ((e138 _ _ (by first | decide | omega)).trans (e137 _ _ (by first | decide | omega)))).trans ((h7 m9 hm9).2 z).2⟩⟩⟩⟩
      · refine ex_go (S := (25, [(0, gx_r 0), (1, .inl 2), (2, .inl b)], [.inl b], t0, n, 0)) rfl (fun _ => rfl) rfl ?_
        by_cases hc40 : b = 0
        · refine gx_1t (c := .eq) rfl (by first | decide | omega) hc40 rfl ?_
          refine ex_go (S := (65, [(0, gx_r 0), (1, .inl 2), (2, .inl b)], [gx_r 0], t0, n, 0)) rfl (fun _ => rfl) rfl ?_
          refine gxo_ref (a := 0) (c := 136) rfl g0 rfl rfl rfl rfl rfl ?_
          refine ex_go (S := (69, [(0, gx_r 0), (1, .inl 2), (2, .inl b)], [.inl 2, gx_r 136], t0, n, 0)) rfl (fun _ => rfl) rfl ?_
          refine gx_ag (v := gx_r 359) (cb := fun c => Nat.ble 4 c && Nat.ble c 7) rfl (fun _ => rfl) g0 rfl rfl (gx_slr g0 rfl (by decide) rfl) (by first | decide | omega) rfl ?_
          refine ex_go (S := (71, [(0, gx_r 0), (1, .inl 2), (2, .inl b)], [gx_r 0, gx_r 359], t0, n, 0)) rfl (fun _ => rfl) rfl ?_
          refine gxo_ref (a := 0) (c := 8) rfl g0 rfl rfl rfl rfl rfl ?_
          obtain ⟨_, r141, t141, rfl, g141, e141, y141a, y141b, y141c⟩ := sc_take d n (A := 359) (B := 8) g0 StA_359 StA_8 (by unfold StD; omega)
          refine gx_callo (a := 359) rfl rfl g0 rfl rfl rfl r141 rfl ?_
          show en_ex _ _ _ _ (77, [(0, gx_r 0), (1, .inl 2), (2, .inl b)], [], t141, n, 0) _
          refine ex_go (S := (78, [(0, gx_r 0), (1, .inl 2), (2, .inl b)], [gx_r 0], t141, n, 0)) rfl (fun _ => rfl) rfl ?_
          refine gxo_ref (a := 0) (c := 137) rfl g141 rfl rfl rfl rfl rfl ?_
          refine ex_go (S := (82, [(0, gx_r 0), (1, .inl 2), (2, .inl b)], [.inl 2, gx_r 137], t141, n, 0)) rfl (fun _ => rfl) rfl ?_
          refine gx_ag (v := gx_r 366) (cb := fun c => Nat.ble 4 c && Nat.ble c 7) rfl (fun _ => rfl) g141 rfl rfl (gx_slr g141 rfl (by decide) rfl) (by first | decide | omega) rfl ?_
          refine ex_go (S := (84, [(0, gx_r 0), (1, .inl 2), (2, .inl b)], [gx_r 0, gx_r 366], t141, n, 0)) rfl (fun _ => rfl) rfl ?_
          refine gxo_ref (a := 0) (c := 139) rfl g141 rfl rfl rfl rfl rfl ?_
          obtain ⟨_, r142, t142, rfl, g142, e142, w142⟩ := sk_366_139 d n g141 ((e141 139 0 (by first | decide | omega)).trans (h2)) hq
          refine gx_callo (a := 366) rfl rfl g141 rfl rfl rfl r142 rfl ?_
          show en_ex _ _ _ _ (90, [(0, gx_r 0), (1, .inl 2), (2, .inl b)], [], t142, n, 0) _
          refine ex_go (S := (91, [(0, gx_r 0), (1, .inl 2), (2, .inl b)], [gx_r 0], t142, n, 0)) rfl (fun _ => rfl) rfl ?_
          refine gxo_ref (a := 0) (c := 138) rfl g142 rfl rfl rfl rfl rfl ?_
          refine ex_go (S := (95, [(0, gx_r 0), (1, .inl 2), (2, .inl b)], [.inl 2, gx_r 138], t142, n, 0)) rfl (fun _ => rfl) rfl ?_
          refine ex_go (S := (96, [(0, gx_r 0), (1, .inl 2), (2, .inl b)], [.inl 1, .inl 2, gx_r 138], t142, n, 0)) rfl (fun _ => rfl) rfl ?_
          refine gx_apv (d := 2) rfl (fun _ => rfl) g142 rfl rfl rfl (show 2 < 4 from by omega) rfl (ai_in_h (by first | decide | omega) (by first | decide | omega) (by first | decide | omega)) rfl (fun t143 g143 k143 e143 => ?_)
          refine ex_go (S := (98, [(0, gx_r 0), (1, .inl 2), (2, .inl b)], [.inl 1], t143, n, 0)) rfl (fun _ => rfl) rfl ?_
          refine ex_ret (r := (some (.inl 1), t143, n, 0)) rfl (fun _ => rfl) ?_
          refine ⟨_, rfl, 1, t143, rfl, g143, (fun c i h => (e143 c i (by first | decide | omega)).trans ((e142 c i (by first | decide | omega)).trans (e141 c i (by first | decide | omega)))), (fun z => absurd ⟨by decide, Or.inl (by first | decide | omega)⟩ z), (fun _ => ⟨rfl, SC_keep h1 (fun c i a b => (e143 c i (by first | decide | omega)).trans ((e142 c i (by first | decide | omega)).trans (e141 c i (by first | decide | omega)))), (e143 139 0 (by first | decide | omega)).trans ((e142 139 0 (by first | decide | omega)).trans ((e141 139 0 (by first | decide | omega)).trans (h2))), ⟨o, h3, (e143 22 1 (by first | decide | omega)).trans ((e142 22 1 (by first | decide | omega)).trans ((e141 22 1 (by first | decide | omega)).trans (h4))), (e143 22 2 (by first | decide | omega)).trans ((e142 22 2 (by first | decide | omega)).trans ((e141 22 2 (by first | decide | omega)).trans (h5))), fun k hk => SC_keep (h6 k hk) (fun c i a b => (e143 c i (by first | decide | omega)).trans ((e142 c i (by first | decide | omega)).trans (e141 c i (by first | decide | omega))))⟩, fun m9 hm9 => ?_⟩), fun z => by omega⟩
          by_cases e9 : m9 = 2
          · subst e9
            rw [up1_t, up1_t, up1_t]
            exact ⟨k143, fun _ => ⟨SC_keep (SC_take h1 hT hK y141a y141b y141c) (fun c i a b => (e143 c i (by first | decide | omega)).trans (e142 c i (by first | decide | omega))), (e143 366 0 (by first | decide | omega)).trans (w142)⟩⟩
          · rw [up1_f e9, up1_f e9, up1_f e9]
            exact ⟨(e143 138 m9 (by first | decide | omega)).trans ((e142 138 m9 (by first | decide | omega)).trans ((e141 138 m9 (by first | decide | omega)).trans ((h7 m9 hm9).1))), fun z => ⟨SC_keep ((h7 m9 hm9).2 z).1 (fun c i a b => (e143 c i (by first | decide | omega)).trans ((e142 c i (by first | decide | omega)).trans (e141 c i (by first | decide | omega)))), ((e143 _ _ (by first | decide | omega)).trans ((e142 _ _ (by first | decide | omega)).trans (e141 _ _ (by first | decide | omega)))).trans ((h7 m9 hm9).2 z).2⟩⟩
        · refine gx_1f (c := .eq) rfl (by first | decide | omega) hc40 rfl ?_
          refine ex_go (S := (29, [(0, gx_r 0), (1, .inl 2), (2, .inl b)], [gx_r 0], t0, n, 0)) rfl (fun _ => rfl) rfl ?_
          refine gxo_ref (a := 0) (c := 8) rfl g0 rfl rfl rfl rfl rfl ?_
          refine ex_go (S := (33, [(0, gx_r 0), (1, .inl 2), (2, .inl b)], [gx_r 0, gx_r 8], t0, n, 0)) rfl (fun _ => rfl) rfl ?_
          refine gxo_ref (a := 0) (c := 136) rfl g0 rfl rfl rfl rfl rfl ?_
          refine ex_go (S := (37, [(0, gx_r 0), (1, .inl 2), (2, .inl b)], [.inl 2, gx_r 136, gx_r 8], t0, n, 0)) rfl (fun _ => rfl) rfl ?_
          refine gx_ag (v := gx_r 359) (cb := fun c => Nat.ble 4 c && Nat.ble c 7) rfl (fun _ => rfl) g0 rfl rfl (gx_slr g0 rfl (by decide) rfl) (by first | decide | omega) rfl ?_
          obtain ⟨_, r144, t144, rfl, g144, e144, y144a, y144b, y144c⟩ := sc_take d n (A := 8) (B := 359) g0 StA_8 StA_359 (by unfold StD; omega)
          refine gx_callo (a := 8) rfl rfl g0 rfl rfl rfl r144 rfl ?_
          show en_ex _ _ _ _ (41, [(0, gx_r 0), (1, .inl 2), (2, .inl b)], [], t144, n, 0) _
          refine ex_go (S := (42, [(0, gx_r 0), (1, .inl 2), (2, .inl b)], [gx_r 0], t144, n, 0)) rfl (fun _ => rfl) rfl ?_
          refine gxo_ref (a := 0) (c := 139) rfl g144 rfl rfl rfl rfl rfl ?_
          refine ex_go (S := (46, [(0, gx_r 0), (1, .inl 2), (2, .inl b)], [gx_r 0, gx_r 139], t144, n, 0)) rfl (fun _ => rfl) rfl ?_
          refine gxo_ref (a := 0) (c := 137) rfl g144 rfl rfl rfl rfl rfl ?_
          refine ex_go (S := (50, [(0, gx_r 0), (1, .inl 2), (2, .inl b)], [.inl 2, gx_r 137, gx_r 139], t144, n, 0)) rfl (fun _ => rfl) rfl ?_
          refine gx_ag (v := gx_r 366) (cb := fun c => Nat.ble 4 c && Nat.ble c 7) rfl (fun _ => rfl) g144 rfl rfl (gx_slr g144 rfl (by decide) rfl) (by first | decide | omega) rfl ?_
          obtain ⟨_, r145, t145, rfl, g145, e145, w145⟩ := sk_139_366 d n g144 ((e144 366 0 (by first | decide | omega)).trans (((h7 2 (by decide)).2 (by first | decide | omega)).2)) (hv 2 (by decide) (by first | decide | omega))
          refine gx_callo (a := 139) rfl rfl g144 rfl rfl rfl r145 rfl ?_
          show en_ex _ _ _ _ (54, [(0, gx_r 0), (1, .inl 2), (2, .inl b)], [], t145, n, 0) _
          refine ex_go (S := (55, [(0, gx_r 0), (1, .inl 2), (2, .inl b)], [gx_r 0], t145, n, 0)) rfl (fun _ => rfl) rfl ?_
          refine gxo_ref (a := 0) (c := 22) rfl g145 rfl rfl rfl rfl rfl ?_
          obtain ⟨_, r146, t146, rfl, g146, e146, ka146, kb146⟩ := pz_pclear d n g145
          refine gx_callo (a := 22) rfl rfl g145 rfl rfl rfl r146 rfl ?_
          show en_ex _ _ _ _ (61, [(0, gx_r 0), (1, .inl 2), (2, .inl b)], [], t146, n, 0) _
          refine ex_go (S := (97, [(0, gx_r 0), (1, .inl 2), (2, .inl b)], [], t146, n, 0)) rfl (fun _ => rfl) rfl ?_
          refine ex_go (S := (98, [(0, gx_r 0), (1, .inl 2), (2, .inl b)], [.inl 1], t146, n, 0)) rfl (fun _ => rfl) rfl ?_
          refine ex_ret (r := (some (.inl 1), t146, n, 0)) rfl (fun _ => rfl) ?_
          refine ⟨_, rfl, 1, t146, rfl, g146, (fun c i h => (e146 c i (by first | decide | omega)).trans ((e145 c i (by first | decide | omega)).trans (e144 c i (by first | decide | omega)))), (fun z => absurd ⟨by decide, Or.inr (by first | decide | omega)⟩ z), (fun z => by omega), fun _ => ⟨rfl, SC_keep (SC_take ((h7 2 (by decide)).2 (by first | decide | omega)).1 hT hK y144a y144b y144c) (fun c i a b => (e146 c i (by first | decide | omega)).trans (e145 c i (by first | decide | omega))), (e146 139 0 (by first | decide | omega)).trans (w145), ⟨0, by decide, ka146, kb146, fun k hk => absurd hk (Nat.not_lt_zero k)⟩, fun m9 hm9 => ⟨(e146 138 m9 (by first | decide | omega)).trans ((e145 138 m9 (by first | decide | omega)).trans ((e144 138 m9 (by first | decide | omega)).trans ((h7 m9 hm9).1))), fun z => ⟨SC_keep ((h7 m9 hm9).2 z).1 (fun c i a b => (e146 c i (by first | decide | omega)).trans ((e145 c i (by first | decide | omega)).trans (e144 c i (by first | decide | omega)))), ((e146 _ _ (by first | decide | omega)).trans ((e145 _ _ (by first | decide | omega)).trans (e144 _ _ (by first | decide | omega)))).trans ((h7 m9 hm9).2 z).2⟩⟩⟩⟩
      · refine ex_go (S := (25, [(0, gx_r 0), (1, .inl 3), (2, .inl b)], [.inl b], t0, n, 0)) rfl (fun _ => rfl) rfl ?_
        by_cases hc47 : b = 0
        · refine gx_1t (c := .eq) rfl (by first | decide | omega) hc47 rfl ?_
          refine ex_go (S := (65, [(0, gx_r 0), (1, .inl 3), (2, .inl b)], [gx_r 0], t0, n, 0)) rfl (fun _ => rfl) rfl ?_
          refine gxo_ref (a := 0) (c := 136) rfl g0 rfl rfl rfl rfl rfl ?_
          refine ex_go (S := (69, [(0, gx_r 0), (1, .inl 3), (2, .inl b)], [.inl 3, gx_r 136], t0, n, 0)) rfl (fun _ => rfl) rfl ?_
          refine gx_ag (v := gx_r 371) (cb := fun c => Nat.ble 4 c && Nat.ble c 7) rfl (fun _ => rfl) g0 rfl rfl (gx_slr g0 rfl (by decide) rfl) (by first | decide | omega) rfl ?_
          refine ex_go (S := (71, [(0, gx_r 0), (1, .inl 3), (2, .inl b)], [gx_r 0, gx_r 371], t0, n, 0)) rfl (fun _ => rfl) rfl ?_
          refine gxo_ref (a := 0) (c := 8) rfl g0 rfl rfl rfl rfl rfl ?_
          obtain ⟨_, r148, t148, rfl, g148, e148, y148a, y148b, y148c⟩ := sc_take d n (A := 371) (B := 8) g0 StA_371 StA_8 (by unfold StD; omega)
          refine gx_callo (a := 371) rfl rfl g0 rfl rfl rfl r148 rfl ?_
          show en_ex _ _ _ _ (77, [(0, gx_r 0), (1, .inl 3), (2, .inl b)], [], t148, n, 0) _
          refine ex_go (S := (78, [(0, gx_r 0), (1, .inl 3), (2, .inl b)], [gx_r 0], t148, n, 0)) rfl (fun _ => rfl) rfl ?_
          refine gxo_ref (a := 0) (c := 137) rfl g148 rfl rfl rfl rfl rfl ?_
          refine ex_go (S := (82, [(0, gx_r 0), (1, .inl 3), (2, .inl b)], [.inl 3, gx_r 137], t148, n, 0)) rfl (fun _ => rfl) rfl ?_
          refine gx_ag (v := gx_r 378) (cb := fun c => Nat.ble 4 c && Nat.ble c 7) rfl (fun _ => rfl) g148 rfl rfl (gx_slr g148 rfl (by decide) rfl) (by first | decide | omega) rfl ?_
          refine ex_go (S := (84, [(0, gx_r 0), (1, .inl 3), (2, .inl b)], [gx_r 0, gx_r 378], t148, n, 0)) rfl (fun _ => rfl) rfl ?_
          refine gxo_ref (a := 0) (c := 139) rfl g148 rfl rfl rfl rfl rfl ?_
          obtain ⟨_, r149, t149, rfl, g149, e149, w149⟩ := sk_378_139 d n g148 ((e148 139 0 (by first | decide | omega)).trans (h2)) hq
          refine gx_callo (a := 378) rfl rfl g148 rfl rfl rfl r149 rfl ?_
          show en_ex _ _ _ _ (90, [(0, gx_r 0), (1, .inl 3), (2, .inl b)], [], t149, n, 0) _
          refine ex_go (S := (91, [(0, gx_r 0), (1, .inl 3), (2, .inl b)], [gx_r 0], t149, n, 0)) rfl (fun _ => rfl) rfl ?_
          refine gxo_ref (a := 0) (c := 138) rfl g149 rfl rfl rfl rfl rfl ?_
          refine ex_go (S := (95, [(0, gx_r 0), (1, .inl 3), (2, .inl b)], [.inl 3, gx_r 138], t149, n, 0)) rfl (fun _ => rfl) rfl ?_
          refine ex_go (S := (96, [(0, gx_r 0), (1, .inl 3), (2, .inl b)], [.inl 1, .inl 3, gx_r 138], t149, n, 0)) rfl (fun _ => rfl) rfl ?_
          refine gx_apv (d := 2) rfl (fun _ => rfl) g149 rfl rfl rfl (show 3 < 4 from by omega) rfl (ai_in_h (by first | decide | omega) (by first | decide | omega) (by first | decide | omega)) rfl (fun t150 g150 k150 e150 => ?_)
          refine ex_go (S := (98, [(0, gx_r 0), (1, .inl 3), (2, .inl b)], [.inl 1], t150, n, 0)) rfl (fun _ => rfl) rfl ?_
          refine ex_ret (r := (some (.inl 1), t150, n, 0)) rfl (fun _ => rfl) ?_
          refine ⟨_, rfl, 1, t150, rfl, g150, (fun c i h => (e150 c i (by first | decide | omega)).trans ((e149 c i (by first | decide | omega)).trans (e148 c i (by first | decide | omega)))), (fun z => absurd ⟨by decide, Or.inl (by first | decide | omega)⟩ z), (fun _ => ⟨rfl, SC_keep h1 (fun c i a b => (e150 c i (by first | decide | omega)).trans ((e149 c i (by first | decide | omega)).trans (e148 c i (by first | decide | omega)))), (e150 139 0 (by first | decide | omega)).trans ((e149 139 0 (by first | decide | omega)).trans ((e148 139 0 (by first | decide | omega)).trans (h2))), ⟨o, h3, (e150 22 1 (by first | decide | omega)).trans ((e149 22 1 (by first | decide | omega)).trans ((e148 22 1 (by first | decide | omega)).trans (h4))), (e150 22 2 (by first | decide | omega)).trans ((e149 22 2 (by first | decide | omega)).trans ((e148 22 2 (by first | decide | omega)).trans (h5))), fun k hk => SC_keep (h6 k hk) (fun c i a b => (e150 c i (by first | decide | omega)).trans ((e149 c i (by first | decide | omega)).trans (e148 c i (by first | decide | omega))))⟩, fun m9 hm9 => ?_⟩), fun z => by omega⟩
          by_cases e9 : m9 = 3
          · subst e9
            rw [up1_t, up1_t, up1_t]
            exact ⟨k150, fun _ => ⟨SC_keep (SC_take h1 hT hK y148a y148b y148c) (fun c i a b => (e150 c i (by first | decide | omega)).trans (e149 c i (by first | decide | omega))), (e150 378 0 (by first | decide | omega)).trans (w149)⟩⟩
          · rw [up1_f e9, up1_f e9, up1_f e9]
            exact ⟨(e150 138 m9 (by first | decide | omega)).trans ((e149 138 m9 (by first | decide | omega)).trans ((e148 138 m9 (by first | decide | omega)).trans ((h7 m9 hm9).1))), fun z => ⟨SC_keep ((h7 m9 hm9).2 z).1 (fun c i a b => (e150 c i (by first | decide | omega)).trans ((e149 c i (by first | decide | omega)).trans (e148 c i (by first | decide | omega)))), ((e150 _ _ (by first | decide | omega)).trans ((e149 _ _ (by first | decide | omega)).trans (e148 _ _ (by first | decide | omega)))).trans ((h7 m9 hm9).2 z).2⟩⟩
        · refine gx_1f (c := .eq) rfl (by first | decide | omega) hc47 rfl ?_
          refine ex_go (S := (29, [(0, gx_r 0), (1, .inl 3), (2, .inl b)], [gx_r 0], t0, n, 0)) rfl (fun _ => rfl) rfl ?_
          refine gxo_ref (a := 0) (c := 8) rfl g0 rfl rfl rfl rfl rfl ?_
          refine ex_go (S := (33, [(0, gx_r 0), (1, .inl 3), (2, .inl b)], [gx_r 0, gx_r 8], t0, n, 0)) rfl (fun _ => rfl) rfl ?_
          refine gxo_ref (a := 0) (c := 136) rfl g0 rfl rfl rfl rfl rfl ?_
          refine ex_go (S := (37, [(0, gx_r 0), (1, .inl 3), (2, .inl b)], [.inl 3, gx_r 136, gx_r 8], t0, n, 0)) rfl (fun _ => rfl) rfl ?_
          refine gx_ag (v := gx_r 371) (cb := fun c => Nat.ble 4 c && Nat.ble c 7) rfl (fun _ => rfl) g0 rfl rfl (gx_slr g0 rfl (by decide) rfl) (by first | decide | omega) rfl ?_
          obtain ⟨_, r151, t151, rfl, g151, e151, y151a, y151b, y151c⟩ := sc_take d n (A := 8) (B := 371) g0 StA_8 StA_371 (by unfold StD; omega)
          refine gx_callo (a := 8) rfl rfl g0 rfl rfl rfl r151 rfl ?_
          show en_ex _ _ _ _ (41, [(0, gx_r 0), (1, .inl 3), (2, .inl b)], [], t151, n, 0) _
          refine ex_go (S := (42, [(0, gx_r 0), (1, .inl 3), (2, .inl b)], [gx_r 0], t151, n, 0)) rfl (fun _ => rfl) rfl ?_
          refine gxo_ref (a := 0) (c := 139) rfl g151 rfl rfl rfl rfl rfl ?_
          refine ex_go (S := (46, [(0, gx_r 0), (1, .inl 3), (2, .inl b)], [gx_r 0, gx_r 139], t151, n, 0)) rfl (fun _ => rfl) rfl ?_
          refine gxo_ref (a := 0) (c := 137) rfl g151 rfl rfl rfl rfl rfl ?_
          refine ex_go (S := (50, [(0, gx_r 0), (1, .inl 3), (2, .inl b)], [.inl 3, gx_r 137, gx_r 139], t151, n, 0)) rfl (fun _ => rfl) rfl ?_
          refine gx_ag (v := gx_r 378) (cb := fun c => Nat.ble 4 c && Nat.ble c 7) rfl (fun _ => rfl) g151 rfl rfl (gx_slr g151 rfl (by decide) rfl) (by first | decide | omega) rfl ?_
          obtain ⟨_, r152, t152, rfl, g152, e152, w152⟩ := sk_139_378 d n g151 ((e151 378 0 (by first | decide | omega)).trans (((h7 3 (by decide)).2 (by first | decide | omega)).2)) (hv 3 (by decide) (by first | decide | omega))
          refine gx_callo (a := 139) rfl rfl g151 rfl rfl rfl r152 rfl ?_
          show en_ex _ _ _ _ (54, [(0, gx_r 0), (1, .inl 3), (2, .inl b)], [], t152, n, 0) _
          refine ex_go (S := (55, [(0, gx_r 0), (1, .inl 3), (2, .inl b)], [gx_r 0], t152, n, 0)) rfl (fun _ => rfl) rfl ?_
          refine gxo_ref (a := 0) (c := 22) rfl g152 rfl rfl rfl rfl rfl ?_
          obtain ⟨_, r153, t153, rfl, g153, e153, ka153, kb153⟩ := pz_pclear d n g152
          refine gx_callo (a := 22) rfl rfl g152 rfl rfl rfl r153 rfl ?_
          show en_ex _ _ _ _ (61, [(0, gx_r 0), (1, .inl 3), (2, .inl b)], [], t153, n, 0) _
          refine ex_go (S := (97, [(0, gx_r 0), (1, .inl 3), (2, .inl b)], [], t153, n, 0)) rfl (fun _ => rfl) rfl ?_
          refine ex_go (S := (98, [(0, gx_r 0), (1, .inl 3), (2, .inl b)], [.inl 1], t153, n, 0)) rfl (fun _ => rfl) rfl ?_
          refine ex_ret (r := (some (.inl 1), t153, n, 0)) rfl (fun _ => rfl) ?_
          refine ⟨_, rfl, 1, t153, rfl, g153, (fun c i h => (e153 c i (by first | decide | omega)).trans ((e152 c i (by first | decide | omega)).trans (e151 c i (by first | decide | omega)))), (fun z => absurd ⟨by decide, Or.inr (by first | decide | omega)⟩ z), (fun z => by omega), fun _ => ⟨rfl, SC_keep (SC_take ((h7 3 (by decide)).2 (by first | decide | omega)).1 hT hK y151a y151b y151c) (fun c i a b => (e153 c i (by first | decide | omega)).trans (e152 c i (by first | decide | omega))), (e153 139 0 (by first | decide | omega)).trans (w152), ⟨0, by decide, ka153, kb153, fun k hk => absurd hk (Nat.not_lt_zero k)⟩, fun m9 hm9 => ⟨(e153 138 m9 (by first | decide | omega)).trans ((e152 138 m9 (by first | decide | omega)).trans ((e151 138 m9 (by first | decide | omega)).trans ((h7 m9 hm9).1))), fun z => ⟨SC_keep ((h7 m9 hm9).2 z).1 (fun c i a b => (e153 c i (by first | decide | omega)).trans ((e152 c i (by first | decide | omega)).trans (e151 c i (by first | decide | omega)))), ((e153 _ _ (by first | decide | omega)).trans ((e152 _ _ (by first | decide | omega)).trans (e151 _ _ (by first | decide | omega)))).trans ((h7 m9 hm9).2 z).2⟩⟩⟩⟩
    · refine gx_1f (c := .eq) rfl (by first | decide | omega) hc25 rfl ?_
      refine ex_go (S := (14, [(0, gx_r 0), (1, .inl m), (2, .inl b)], [gx_r 0], t0, n, 0)) rfl (fun _ => rfl) rfl ?_
      refine gxo_ref (a := 0) (c := 138) rfl g0 rfl rfl rfl rfl rfl ?_
      refine ex_go (S := (18, [(0, gx_r 0), (1, .inl m), (2, .inl b)], [.inl m, gx_r 138], t0, n, 0)) rfl (fun _ => rfl) rfl ?_
      have hf1 := hF m (by first | decide | omega)
      refine gx_ag (v := .inl (F m)) (cb := fun c => Nat.beq c 2 || Nat.beq c 1) rfl (fun _ => rfl) g0 rfl rfl ((h7 m (by first | decide | omega)).1) (by first | decide | omega) rfl ?_
      by_cases hc54 : F m ≠ 0
      · refine gx_1t (c := .ne) rfl (by first | decide | omega) hc54 rfl ?_
        rcases (show m = 0 ∨ m = 1 ∨ m = 2 ∨ m = 3 by omega) with rfl | rfl | rfl | rfl
        · refine ex_go (S := (25, [(0, gx_r 0), (1, .inl 0), (2, .inl b)], [.inl b], t0, n, 0)) rfl (fun _ => rfl) rfl ?_
          by_cases hc55 : b = 0
          · refine gx_1t (c := .eq) rfl (by first | decide | omega) hc55 rfl ?_
            refine ex_go (S := (65, [(0, gx_r 0), (1, .inl 0), (2, .inl b)], [gx_r 0], t0, n, 0)) rfl (fun _ => rfl) rfl ?_
            refine gxo_ref (a := 0) (c := 136) rfl g0 rfl rfl rfl rfl rfl ?_
            refine ex_go (S := (69, [(0, gx_r 0), (1, .inl 0), (2, .inl b)], [.inl 0, gx_r 136], t0, n, 0)) rfl (fun _ => rfl) rfl ?_
            refine gx_ag (v := gx_r 335) (cb := fun c => Nat.ble 4 c && Nat.ble c 7) rfl (fun _ => rfl) g0 rfl rfl (gx_slr g0 rfl (by decide) rfl) (by first | decide | omega) rfl ?_
            refine ex_go (S := (71, [(0, gx_r 0), (1, .inl 0), (2, .inl b)], [gx_r 0, gx_r 335], t0, n, 0)) rfl (fun _ => rfl) rfl ?_
            refine gxo_ref (a := 0) (c := 8) rfl g0 rfl rfl rfl rfl rfl ?_
            obtain ⟨_, r156, t156, rfl, g156, e156, y156a, y156b, y156c⟩ := sc_take d n (A := 335) (B := 8) g0 StA_335 StA_8 (by unfold StD; omega)
            refine gx_callo (a := 335) rfl rfl g0 rfl rfl rfl r156 rfl ?_
            show en_ex _ _ _ _ (77, [(0, gx_r 0), (1, .inl 0), (2, .inl b)], [], t156, n, 0) _
            refine ex_go (S := (78, [(0, gx_r 0), (1, .inl 0), (2, .inl b)], [gx_r 0], t156, n, 0)) rfl (fun _ => rfl) rfl ?_
            refine gxo_ref (a := 0) (c := 137) rfl g156 rfl rfl rfl rfl rfl ?_
            refine ex_go (S := (82, [(0, gx_r 0), (1, .inl 0), (2, .inl b)], [.inl 0, gx_r 137], t156, n, 0)) rfl (fun _ => rfl) rfl ?_
            refine gx_ag (v := gx_r 342) (cb := fun c => Nat.ble 4 c && Nat.ble c 7) rfl (fun _ => rfl) g156 rfl rfl (gx_slr g156 rfl (by decide) rfl) (by first | decide | omega) rfl ?_
            refine ex_go (S := (84, [(0, gx_r 0), (1, .inl 0), (2, .inl b)], [gx_r 0, gx_r 342], t156, n, 0)) rfl (fun _ => rfl) rfl ?_
            refine gxo_ref (a := 0) (c := 139) rfl g156 rfl rfl rfl rfl rfl ?_
            obtain ⟨_, r157, t157, rfl, g157, e157, w157⟩ := sk_342_139 d n g156 ((e156 139 0 (by first | decide | omega)).trans (h2)) hq
            refine gx_callo (a := 342) rfl rfl g156 rfl rfl rfl r157 rfl ?_
            show en_ex _ _ _ _ (90, [(0, gx_r 0), (1, .inl 0), (2, .inl b)], [], t157, n, 0) _
            refine ex_go (S := (91, [(0, gx_r 0), (1, .inl 0), (2, .inl b)], [gx_r 0], t157, n, 0)) rfl (fun _ => rfl) rfl ?_
            refine gxo_ref (a := 0) (c := 138) rfl g157 rfl rfl rfl rfl rfl ?_
            refine ex_go (S := (95, [(0, gx_r 0), (1, .inl 0), (2, .inl b)], [.inl 0, gx_r 138], t157, n, 0)) rfl (fun _ => rfl) rfl ?_
            refine ex_go (S := (96, [(0, gx_r 0), (1, .inl 0), (2, .inl b)], [.inl 1, .inl 0, gx_r 138], t157, n, 0)) rfl (fun _ => rfl) rfl ?_
            refine gx_apv (d := 2) rfl (fun _ => rfl) g157 rfl rfl rfl (show 0 < 4 from by omega) rfl (ai_in_h (by first | decide | omega) (by first | decide | omega) (by first | decide | omega)) rfl (fun t158 g158 k158 e158 => ?_)
            refine ex_go (S := (98, [(0, gx_r 0), (1, .inl 0), (2, .inl b)], [.inl 1], t158, n, 0)) rfl (fun _ => rfl) rfl ?_
            refine ex_ret (r := (some (.inl 1), t158, n, 0)) rfl (fun _ => rfl) ?_
            refine ⟨_, rfl, 1, t158, rfl, g158, (fun c i h => (e158 c i (by first | decide | omega)).trans ((e157 c i (by first | decide | omega)).trans (e156 c i (by first | decide | omega)))), (fun z => absurd ⟨by decide, Or.inl (by first | decide | omega)⟩ z), (fun _ => ⟨rfl, SC_keep h1 (fun c i a b => (e158 c i (by first | decide | omega)).trans ((e157 c i (by first | decide | omega)).trans (e156 c i (by first | decide | omega)))), (e158 139 0 (by first | decide | omega)).trans ((e157 139 0 (by first | decide | omega)).trans ((e156 139 0 (by first | decide | omega)).trans (h2))), ⟨o, h3, (e158 22 1 (by first | decide | omega)).trans ((e157 22 1 (by first | decide | omega)).trans ((e156 22 1 (by first | decide | omega)).trans (h4))), (e158 22 2 (by first | decide | omega)).trans ((e157 22 2 (by first | decide | omega)).trans ((e156 22 2 (by first | decide | omega)).trans (h5))), fun k hk => SC_keep (h6 k hk) (fun c i a b => (e158 c i (by first | decide | omega)).trans ((e157 c i (by first | decide | omega)).trans (e156 c i (by first | decide | omega))))⟩, fun m9 hm9 => ?_⟩), fun z => by omega⟩
            by_cases e9 : m9 = 0
            · subst e9
              rw [up1_t, up1_t, up1_t]
              exact ⟨k158, fun _ => ⟨SC_keep (SC_take h1 hT hK y156a y156b y156c) (fun c i a b => (e158 c i (by first | decide | omega)).trans (e157 c i (by first | decide | omega))), (e158 342 0 (by first | decide | omega)).trans (w157)⟩⟩
            · rw [up1_f e9, up1_f e9, up1_f e9]
              exact ⟨(e158 138 m9 (by first | decide | omega)).trans ((e157 138 m9 (by first | decide | omega)).trans ((e156 138 m9 (by first | decide | omega)).trans ((h7 m9 hm9).1))), fun z => ⟨SC_keep ((h7 m9 hm9).2 z).1 (fun c i a b => (e158 c i (by first | decide | omega)).trans ((e157 c i (by first | decide | omega)).trans (e156 c i (by first | decide | omega)))), ((e158 _ _ (by first | decide | omega)).trans ((e157 _ _ (by first | decide | omega)).trans (e156 _ _ (by first | decide | omega)))).trans ((h7 m9 hm9).2 z).2⟩⟩
          · refine gx_1f (c := .eq) rfl (by first | decide | omega) hc55 rfl ?_
            refine ex_go (S := (29, [(0, gx_r 0), (1, .inl 0), (2, .inl b)], [gx_r 0], t0, n, 0)) rfl (fun _ => rfl) rfl ?_
            refine gxo_ref (a := 0) (c := 8) rfl g0 rfl rfl rfl rfl rfl ?_
            refine ex_go (S := (33, [(0, gx_r 0), (1, .inl 0), (2, .inl b)], [gx_r 0, gx_r 8], t0, n, 0)) rfl (fun _ => rfl) rfl ?_
            refine gxo_ref (a := 0) (c := 136) rfl g0 rfl rfl rfl rfl rfl ?_
            refine ex_go (S := (37, [(0, gx_r 0), (1, .inl 0), (2, .inl b)], [.inl 0, gx_r 136, gx_r 8], t0, n, 0)) rfl (fun _ => rfl) rfl ?_
            refine gx_ag (v := gx_r 335) (cb := fun c => Nat.ble 4 c && Nat.ble c 7) rfl (fun _ => rfl) g0 rfl rfl (gx_slr g0 rfl (by decide) rfl) (by first | decide | omega) rfl ?_
            obtain ⟨_, r159, t159, rfl, g159, e159, y159a, y159b, y159c⟩ := sc_take d n (A := 8) (B := 335) g0 StA_8 StA_335 (by unfold StD; omega)
            refine gx_callo (a := 8) rfl rfl g0 rfl rfl rfl r159 rfl ?_
            show en_ex _ _ _ _ (41, [(0, gx_r 0), (1, .inl 0), (2, .inl b)], [], t159, n, 0) _
            refine ex_go (S := (42, [(0, gx_r 0), (1, .inl 0), (2, .inl b)], [gx_r 0], t159, n, 0)) rfl (fun _ => rfl) rfl ?_
            refine gxo_ref (a := 0) (c := 139) rfl g159 rfl rfl rfl rfl rfl ?_
            refine ex_go (S := (46, [(0, gx_r 0), (1, .inl 0), (2, .inl b)], [gx_r 0, gx_r 139], t159, n, 0)) rfl (fun _ => rfl) rfl ?_
            refine gxo_ref (a := 0) (c := 137) rfl g159 rfl rfl rfl rfl rfl ?_
            refine ex_go (S := (50, [(0, gx_r 0), (1, .inl 0), (2, .inl b)], [.inl 0, gx_r 137, gx_r 139], t159, n, 0)) rfl (fun _ => rfl) rfl ?_
            refine gx_ag (v := gx_r 342) (cb := fun c => Nat.ble 4 c && Nat.ble c 7) rfl (fun _ => rfl) g159 rfl rfl (gx_slr g159 rfl (by decide) rfl) (by first | decide | omega) rfl ?_
            obtain ⟨_, r160, t160, rfl, g160, e160, w160⟩ := sk_139_342 d n g159 ((e159 342 0 (by first | decide | omega)).trans (((h7 0 (by decide)).2 (by first | decide | omega)).2)) (hv 0 (by decide) (by first | decide | omega))
            refine gx_callo (a := 139) rfl rfl g159 rfl rfl rfl r160 rfl ?_
            show en_ex _ _ _ _ (54, [(0, gx_r 0), (1, .inl 0), (2, .inl b)], [], t160, n, 0) _
            refine ex_go (S := (55, [(0, gx_r 0), (1, .inl 0), (2, .inl b)], [gx_r 0], t160, n, 0)) rfl (fun _ => rfl) rfl ?_
            refine gxo_ref (a := 0) (c := 22) rfl g160 rfl rfl rfl rfl rfl ?_
            obtain ⟨_, r161, t161, rfl, g161, e161, ka161, kb161⟩ := pz_pclear d n g160
            refine gx_callo (a := 22) rfl rfl g160 rfl rfl rfl r161 rfl ?_
            show en_ex _ _ _ _ (61, [(0, gx_r 0), (1, .inl 0), (2, .inl b)], [], t161, n, 0) _
            refine ex_go (S := (97, [(0, gx_r 0), (1, .inl 0), (2, .inl b)], [], t161, n, 0)) rfl (fun _ => rfl) rfl ?_
            refine ex_go (S := (98, [(0, gx_r 0), (1, .inl 0), (2, .inl b)], [.inl 1], t161, n, 0)) rfl (fun _ => rfl) rfl ?_
            refine ex_ret (r := (some (.inl 1), t161, n, 0)) rfl (fun _ => rfl) ?_
            refine ⟨_, rfl, 1, t161, rfl, g161, (fun c i h => (e161 c i (by first | decide | omega)).trans ((e160 c i (by first | decide | omega)).trans (e159 c i (by first | decide | omega)))), (fun z => absurd ⟨by decide, Or.inr (by first | decide | omega)⟩ z), (fun z => by omega), fun _ => ⟨rfl, SC_keep (SC_take ((h7 0 (by decide)).2 (by first | decide | omega)).1 hT hK y159a y159b y159c) (fun c i a b => (e161 c i (by first | decide | omega)).trans (e160 c i (by first | decide | omega))), (e161 139 0 (by first | decide | omega)).trans (w160), ⟨0, by decide, ka161, kb161, fun k hk => absurd hk (Nat.not_lt_zero k)⟩, fun m9 hm9 => ⟨(e161 138 m9 (by first | decide | omega)).trans ((e160 138 m9 (by first | decide | omega)).trans ((e159 138 m9 (by first | decide | omega)).trans ((h7 m9 hm9).1))), fun z => ⟨SC_keep ((h7 m9 hm9).2 z).1 (fun c i a b => (e161 c i (by first | decide | omega)).trans ((e160 c i (by first | decide | omega)).trans (e159 c i (by first | decide | omega)))), ((e161 _ _ (by first | decide | omega)).trans ((e160 _ _ (by first | decide | omega)).trans (e159 _ _ (by first | decide | omega)))).trans ((h7 m9 hm9).2 z).2⟩⟩⟩⟩
        · refine ex_go (S := (25, [(0, gx_r 0), (1, .inl 1), (2, .inl b)], [.inl b], t0, n, 0)) rfl (fun _ => rfl) rfl ?_
          by_cases hc62 : b = 0
          · refine gx_1t (c := .eq) rfl (by first | decide | omega) hc62 rfl ?_
            refine ex_go (S := (65, [(0, gx_r 0), (1, .inl 1), (2, .inl b)], [gx_r 0], t0, n, 0)) rfl (fun _ => rfl) rfl ?_
            refine gxo_ref (a := 0) (c := 136) rfl g0 rfl rfl rfl rfl rfl ?_
            refine ex_go (S := (69, [(0, gx_r 0), (1, .inl 1), (2, .inl b)], [.inl 1, gx_r 136], t0, n, 0)) rfl (fun _ => rfl) rfl ?_
            refine gx_ag (v := gx_r 347) (cb := fun c => Nat.ble 4 c && Nat.ble c 7) rfl (fun _ => rfl) g0 rfl rfl (gx_slr g0 rfl (by decide) rfl) (by first | decide | omega) rfl ?_
            refine ex_go (S := (71, [(0, gx_r 0), (1, .inl 1), (2, .inl b)], [gx_r 0, gx_r 347], t0, n, 0)) rfl (fun _ => rfl) rfl ?_
            refine gxo_ref (a := 0) (c := 8) rfl g0 rfl rfl rfl rfl rfl ?_
            obtain ⟨_, r163, t163, rfl, g163, e163, y163a, y163b, y163c⟩ := sc_take d n (A := 347) (B := 8) g0 StA_347 StA_8 (by unfold StD; omega)
            refine gx_callo (a := 347) rfl rfl g0 rfl rfl rfl r163 rfl ?_
            show en_ex _ _ _ _ (77, [(0, gx_r 0), (1, .inl 1), (2, .inl b)], [], t163, n, 0) _
            refine ex_go (S := (78, [(0, gx_r 0), (1, .inl 1), (2, .inl b)], [gx_r 0], t163, n, 0)) rfl (fun _ => rfl) rfl ?_
            refine gxo_ref (a := 0) (c := 137) rfl g163 rfl rfl rfl rfl rfl ?_
            refine ex_go (S := (82, [(0, gx_r 0), (1, .inl 1), (2, .inl b)], [.inl 1, gx_r 137], t163, n, 0)) rfl (fun _ => rfl) rfl ?_
            refine gx_ag (v := gx_r 354) (cb := fun c => Nat.ble 4 c && Nat.ble c 7) rfl (fun _ => rfl) g163 rfl rfl (gx_slr g163 rfl (by decide) rfl) (by first | decide | omega) rfl ?_
            refine ex_go (S := (84, [(0, gx_r 0), (1, .inl 1), (2, .inl b)], [gx_r 0, gx_r 354], t163, n, 0)) rfl (fun _ => rfl) rfl ?_
            refine gxo_ref (a := 0) (c := 139) rfl g163 rfl rfl rfl rfl rfl ?_
            obtain ⟨_, r164, t164, rfl, g164, e164, w164⟩ := sk_354_139 d n g163 ((e163 139 0 (by first | decide | omega)).trans (h2)) hq
            refine gx_callo (a := 354) rfl rfl g163 rfl rfl rfl r164 rfl ?_
            show en_ex _ _ _ _ (90, [(0, gx_r 0), (1, .inl 1), (2, .inl b)], [], t164, n, 0) _
            refine ex_go (S := (91, [(0, gx_r 0), (1, .inl 1), (2, .inl b)], [gx_r 0], t164, n, 0)) rfl (fun _ => rfl) rfl ?_
            refine gxo_ref (a := 0) (c := 138) rfl g164 rfl rfl rfl rfl rfl ?_
            refine ex_go (S := (95, [(0, gx_r 0), (1, .inl 1), (2, .inl b)], [.inl 1, gx_r 138], t164, n, 0)) rfl (fun _ => rfl) rfl ?_
            refine ex_go (S := (96, [(0, gx_r 0), (1, .inl 1), (2, .inl b)], [.inl 1, .inl 1, gx_r 138], t164, n, 0)) rfl (fun _ => rfl) rfl ?_
            refine gx_apv (d := 2) rfl (fun _ => rfl) g164 rfl rfl rfl (show 1 < 4 from by omega) rfl (ai_in_h (by first | decide | omega) (by first | decide | omega) (by first | decide | omega)) rfl (fun t165 g165 k165 e165 => ?_)
            refine ex_go (S := (98, [(0, gx_r 0), (1, .inl 1), (2, .inl b)], [.inl 1], t165, n, 0)) rfl (fun _ => rfl) rfl ?_
            refine ex_ret (r := (some (.inl 1), t165, n, 0)) rfl (fun _ => rfl) ?_
            refine ⟨_, rfl, 1, t165, rfl, g165, (fun c i h => (e165 c i (by first | decide | omega)).trans ((e164 c i (by first | decide | omega)).trans (e163 c i (by first | decide | omega)))), (fun z => absurd ⟨by decide, Or.inl (by first | decide | omega)⟩ z), (fun _ => ⟨rfl, SC_keep h1 (fun c i a b => (e165 c i (by first | decide | omega)).trans ((e164 c i (by first | decide | omega)).trans (e163 c i (by first | decide | omega)))), (e165 139 0 (by first | decide | omega)).trans ((e164 139 0 (by first | decide | omega)).trans ((e163 139 0 (by first | decide | omega)).trans (h2))), ⟨o, h3, (e165 22 1 (by first | decide | omega)).trans ((e164 22 1 (by first | decide | omega)).trans ((e163 22 1 (by first | decide | omega)).trans (h4))), (e165 22 2 (by first | decide | omega)).trans ((e164 22 2 (by first | decide | omega)).trans ((e163 22 2 (by first | decide | omega)).trans (h5))), fun k hk => SC_keep (h6 k hk) (fun c i a b => (e165 c i (by first | decide | omega)).trans ((e164 c i (by first | decide | omega)).trans (e163 c i (by first | decide | omega))))⟩, fun m9 hm9 => ?_⟩), fun z => by omega⟩
            by_cases e9 : m9 = 1
            · subst e9
              rw [up1_t, up1_t, up1_t]
              exact ⟨k165, fun _ => ⟨SC_keep (SC_take h1 hT hK y163a y163b y163c) (fun c i a b => (e165 c i (by first | decide | omega)).trans (e164 c i (by first | decide | omega))), (e165 354 0 (by first | decide | omega)).trans (w164)⟩⟩
            · rw [up1_f e9, up1_f e9, up1_f e9]
              exact ⟨(e165 138 m9 (by first | decide | omega)).trans ((e164 138 m9 (by first | decide | omega)).trans ((e163 138 m9 (by first | decide | omega)).trans ((h7 m9 hm9).1))), fun z => ⟨SC_keep ((h7 m9 hm9).2 z).1 (fun c i a b => (e165 c i (by first | decide | omega)).trans ((e164 c i (by first | decide | omega)).trans (e163 c i (by first | decide | omega)))), ((e165 _ _ (by first | decide | omega)).trans ((e164 _ _ (by first | decide | omega)).trans (e163 _ _ (by first | decide | omega)))).trans ((h7 m9 hm9).2 z).2⟩⟩
          · refine gx_1f (c := .eq) rfl (by first | decide | omega) hc62 rfl ?_
            refine ex_go (S := (29, [(0, gx_r 0), (1, .inl 1), (2, .inl b)], [gx_r 0], t0, n, 0)) rfl (fun _ => rfl) rfl ?_
            refine gxo_ref (a := 0) (c := 8) rfl g0 rfl rfl rfl rfl rfl ?_
            refine ex_go (S := (33, [(0, gx_r 0), (1, .inl 1), (2, .inl b)], [gx_r 0, gx_r 8], t0, n, 0)) rfl (fun _ => rfl) rfl ?_
            refine gxo_ref (a := 0) (c := 136) rfl g0 rfl rfl rfl rfl rfl ?_
            refine ex_go (S := (37, [(0, gx_r 0), (1, .inl 1), (2, .inl b)], [.inl 1, gx_r 136, gx_r 8], t0, n, 0)) rfl (fun _ => rfl) rfl ?_
            refine gx_ag (v := gx_r 347) (cb := fun c => Nat.ble 4 c && Nat.ble c 7) rfl (fun _ => rfl) g0 rfl rfl (gx_slr g0 rfl (by decide) rfl) (by first | decide | omega) rfl ?_
            obtain ⟨_, r166, t166, rfl, g166, e166, y166a, y166b, y166c⟩ := sc_take d n (A := 8) (B := 347) g0 StA_8 StA_347 (by unfold StD; omega)
            refine gx_callo (a := 8) rfl rfl g0 rfl rfl rfl r166 rfl ?_
            show en_ex _ _ _ _ (41, [(0, gx_r 0), (1, .inl 1), (2, .inl b)], [], t166, n, 0) _
            refine ex_go (S := (42, [(0, gx_r 0), (1, .inl 1), (2, .inl b)], [gx_r 0], t166, n, 0)) rfl (fun _ => rfl) rfl ?_
            refine gxo_ref (a := 0) (c := 139) rfl g166 rfl rfl rfl rfl rfl ?_
            refine ex_go (S := (46, [(0, gx_r 0), (1, .inl 1), (2, .inl b)], [gx_r 0, gx_r 139], t166, n, 0)) rfl (fun _ => rfl) rfl ?_
            refine gxo_ref (a := 0) (c := 137) rfl g166 rfl rfl rfl rfl rfl ?_
            refine ex_go (S := (50, [(0, gx_r 0), (1, .inl 1), (2, .inl b)], [.inl 1, gx_r 137, gx_r 139], t166, n, 0)) rfl (fun _ => rfl) rfl ?_
            refine gx_ag (v := gx_r 354) (cb := fun c => Nat.ble 4 c && Nat.ble c 7) rfl (fun _ => rfl) g166 rfl rfl (gx_slr g166 rfl (by decide) rfl) (by first | decide | omega) rfl ?_
            obtain ⟨_, r167, t167, rfl, g167, e167, w167⟩ := sk_139_354 d n g166 ((e166 354 0 (by first | decide | omega)).trans (((h7 1 (by decide)).2 (by first | decide | omega)).2)) (hv 1 (by decide) (by first | decide | omega))
            refine gx_callo (a := 139) rfl rfl g166 rfl rfl rfl r167 rfl ?_
            show en_ex _ _ _ _ (54, [(0, gx_r 0), (1, .inl 1), (2, .inl b)], [], t167, n, 0) _
            refine ex_go (S := (55, [(0, gx_r 0), (1, .inl 1), (2, .inl b)], [gx_r 0], t167, n, 0)) rfl (fun _ => rfl) rfl ?_
            refine gxo_ref (a := 0) (c := 22) rfl g167 rfl rfl rfl rfl rfl ?_
            obtain ⟨_, r168, t168, rfl, g168, e168, ka168, kb168⟩ := pz_pclear d n g167
            refine gx_callo (a := 22) rfl rfl g167 rfl rfl rfl r168 rfl ?_
            show en_ex _ _ _ _ (61, [(0, gx_r 0), (1, .inl 1), (2, .inl b)], [], t168, n, 0) _
            refine ex_go (S := (97, [(0, gx_r 0), (1, .inl 1), (2, .inl b)], [], t168, n, 0)) rfl (fun _ => rfl) rfl ?_
            refine ex_go (S := (98, [(0, gx_r 0), (1, .inl 1), (2, .inl b)], [.inl 1], t168, n, 0)) rfl (fun _ => rfl) rfl ?_
            refine ex_ret (r := (some (.inl 1), t168, n, 0)) rfl (fun _ => rfl) ?_
            refine ⟨_, rfl, 1, t168, rfl, g168, (fun c i h => (e168 c i (by first | decide | omega)).trans ((e167 c i (by first | decide | omega)).trans (e166 c i (by first | decide | omega)))), (fun z => absurd ⟨by decide, Or.inr (by first | decide | omega)⟩ z), (fun z => by omega), fun _ => ⟨rfl, SC_keep (SC_take ((h7 1 (by decide)).2 (by first | decide | omega)).1 hT hK y166a y166b y166c) (fun c i a b => (e168 c i (by first | decide | omega)).trans (e167 c i (by first | decide | omega))), (e168 139 0 (by first | decide | omega)).trans (w167), ⟨0, by decide, ka168, kb168, fun k hk => absurd hk (Nat.not_lt_zero k)⟩, fun m9 hm9 => ⟨(e168 138 m9 (by first | decide | omega)).trans ((e167 138 m9 (by first | decide | omega)).trans ((e166 138 m9 (by first | decide | omega)).trans ((h7 m9 hm9).1))), fun z => ⟨SC_keep ((h7 m9 hm9).2 z).1 (fun c i a b => (e168 c i (by first | decide | omega)).trans ((e167 c i (by first | decide | omega)).trans (e166 c i (by first | decide | omega)))), ((e168 _ _ (by first | decide | omega)).trans ((e167 _ _ (by first | decide | omega)).trans (e166 _ _ (by first | decide | omega)))).trans ((h7 m9 hm9).2 z).2⟩⟩⟩⟩
        · refine ex_go (S := (25, [(0, gx_r 0), (1, .inl 2), (2, .inl b)], [.inl b], t0, n, 0)) rfl (fun _ => rfl) rfl ?_
          by_cases hc69 : b = 0
          · refine gx_1t (c := .eq) rfl (by first | decide | omega) hc69 rfl ?_
            refine ex_go (S := (65, [(0, gx_r 0), (1, .inl 2), (2, .inl b)], [gx_r 0], t0, n, 0)) rfl (fun _ => rfl) rfl ?_
            refine gxo_ref (a := 0) (c := 136) rfl g0 rfl rfl rfl rfl rfl ?_
            refine ex_go (S := (69, [(0, gx_r 0), (1, .inl 2), (2, .inl b)], [.inl 2, gx_r 136], t0, n, 0)) rfl (fun _ => rfl) rfl ?_
            refine gx_ag (v := gx_r 359) (cb := fun c => Nat.ble 4 c && Nat.ble c 7) rfl (fun _ => rfl) g0 rfl rfl (gx_slr g0 rfl (by decide) rfl) (by first | decide | omega) rfl ?_
            refine ex_go (S := (71, [(0, gx_r 0), (1, .inl 2), (2, .inl b)], [gx_r 0, gx_r 359], t0, n, 0)) rfl (fun _ => rfl) rfl ?_
            refine gxo_ref (a := 0) (c := 8) rfl g0 rfl rfl rfl rfl rfl ?_
            obtain ⟨_, r170, t170, rfl, g170, e170, y170a, y170b, y170c⟩ := sc_take d n (A := 359) (B := 8) g0 StA_359 StA_8 (by unfold StD; omega)
            refine gx_callo (a := 359) rfl rfl g0 rfl rfl rfl r170 rfl ?_
            show en_ex _ _ _ _ (77, [(0, gx_r 0), (1, .inl 2), (2, .inl b)], [], t170, n, 0) _
            refine ex_go (S := (78, [(0, gx_r 0), (1, .inl 2), (2, .inl b)], [gx_r 0], t170, n, 0)) rfl (fun _ => rfl) rfl ?_
            refine gxo_ref (a := 0) (c := 137) rfl g170 rfl rfl rfl rfl rfl ?_
            refine ex_go (S := (82, [(0, gx_r 0), (1, .inl 2), (2, .inl b)], [.inl 2, gx_r 137], t170, n, 0)) rfl (fun _ => rfl) rfl ?_
            refine gx_ag (v := gx_r 366) (cb := fun c => Nat.ble 4 c && Nat.ble c 7) rfl (fun _ => rfl) g170 rfl rfl (gx_slr g170 rfl (by decide) rfl) (by first | decide | omega) rfl ?_
            refine ex_go (S := (84, [(0, gx_r 0), (1, .inl 2), (2, .inl b)], [gx_r 0, gx_r 366], t170, n, 0)) rfl (fun _ => rfl) rfl ?_
            refine gxo_ref (a := 0) (c := 139) rfl g170 rfl rfl rfl rfl rfl ?_
            obtain ⟨_, r171, t171, rfl, g171, e171, w171⟩ := sk_366_139 d n g170 ((e170 139 0 (by first | decide | omega)).trans (h2)) hq
            refine gx_callo (a := 366) rfl rfl g170 rfl rfl rfl r171 rfl ?_
            show en_ex _ _ _ _ (90, [(0, gx_r 0), (1, .inl 2), (2, .inl b)], [], t171, n, 0) _
            refine ex_go (S := (91, [(0, gx_r 0), (1, .inl 2), (2, .inl b)], [gx_r 0], t171, n, 0)) rfl (fun _ => rfl) rfl ?_
            refine gxo_ref (a := 0) (c := 138) rfl g171 rfl rfl rfl rfl rfl ?_
            refine ex_go (S := (95, [(0, gx_r 0), (1, .inl 2), (2, .inl b)], [.inl 2, gx_r 138], t171, n, 0)) rfl (fun _ => rfl) rfl ?_
            refine ex_go (S := (96, [(0, gx_r 0), (1, .inl 2), (2, .inl b)], [.inl 1, .inl 2, gx_r 138], t171, n, 0)) rfl (fun _ => rfl) rfl ?_
            refine gx_apv (d := 2) rfl (fun _ => rfl) g171 rfl rfl rfl (show 2 < 4 from by omega) rfl (ai_in_h (by first | decide | omega) (by first | decide | omega) (by first | decide | omega)) rfl (fun t172 g172 k172 e172 => ?_)
            refine ex_go (S := (98, [(0, gx_r 0), (1, .inl 2), (2, .inl b)], [.inl 1], t172, n, 0)) rfl (fun _ => rfl) rfl ?_
            refine ex_ret (r := (some (.inl 1), t172, n, 0)) rfl (fun _ => rfl) ?_
            refine ⟨_, rfl, 1, t172, rfl, g172, (fun c i h => (e172 c i (by first | decide | omega)).trans ((e171 c i (by first | decide | omega)).trans (e170 c i (by first | decide | omega)))), (fun z => absurd ⟨by decide, Or.inl (by first | decide | omega)⟩ z), (fun _ => ⟨rfl, SC_keep h1 (fun c i a b => (e172 c i (by first | decide | omega)).trans ((e171 c i (by first | decide | omega)).trans (e170 c i (by first | decide | omega)))), (e172 139 0 (by first | decide | omega)).trans ((e171 139 0 (by first | decide | omega)).trans ((e170 139 0 (by first | decide | omega)).trans (h2))), ⟨o, h3, (e172 22 1 (by first | decide | omega)).trans ((e171 22 1 (by first | decide | omega)).trans ((e170 22 1 (by first | decide | omega)).trans (h4))), (e172 22 2 (by first | decide | omega)).trans ((e171 22 2 (by first | decide | omega)).trans ((e170 22 2 (by first | decide | omega)).trans (h5))), fun k hk => SC_keep (h6 k hk) (fun c i a b => (e172 c i (by first | decide | omega)).trans ((e171 c i (by first | decide | omega)).trans (e170 c i (by first | decide | omega))))⟩, fun m9 hm9 => ?_⟩), fun z => by omega⟩
            by_cases e9 : m9 = 2
            · subst e9
              rw [up1_t, up1_t, up1_t]
              exact ⟨k172, fun _ => ⟨SC_keep (SC_take h1 hT hK y170a y170b y170c) (fun c i a b => (e172 c i (by first | decide | omega)).trans (e171 c i (by first | decide | omega))), (e172 366 0 (by first | decide | omega)).trans (w171)⟩⟩
            · rw [up1_f e9, up1_f e9, up1_f e9]
              exact ⟨(e172 138 m9 (by first | decide | omega)).trans ((e171 138 m9 (by first | decide | omega)).trans ((e170 138 m9 (by first | decide | omega)).trans ((h7 m9 hm9).1))), fun z => ⟨SC_keep ((h7 m9 hm9).2 z).1 (fun c i a b => (e172 c i (by first | decide | omega)).trans ((e171 c i (by first | decide | omega)).trans (e170 c i (by first | decide | omega)))), ((e172 _ _ (by first | decide | omega)).trans ((e171 _ _ (by first | decide | omega)).trans (e170 _ _ (by first | decide | omega)))).trans ((h7 m9 hm9).2 z).2⟩⟩
          · refine gx_1f (c := .eq) rfl (by first | decide | omega) hc69 rfl ?_
            refine ex_go (S := (29, [(0, gx_r 0), (1, .inl 2), (2, .inl b)], [gx_r 0], t0, n, 0)) rfl (fun _ => rfl) rfl ?_
            refine gxo_ref (a := 0) (c := 8) rfl g0 rfl rfl rfl rfl rfl ?_
            refine ex_go (S := (33, [(0, gx_r 0), (1, .inl 2), (2, .inl b)], [gx_r 0, gx_r 8], t0, n, 0)) rfl (fun _ => rfl) rfl ?_
            refine gxo_ref (a := 0) (c := 136) rfl g0 rfl rfl rfl rfl rfl ?_
            refine ex_go (S := (37, [(0, gx_r 0), (1, .inl 2), (2, .inl b)], [.inl 2, gx_r 136, gx_r 8], t0, n, 0)) rfl (fun _ => rfl) rfl ?_
            refine gx_ag (v := gx_r 359) (cb := fun c => Nat.ble 4 c && Nat.ble c 7) rfl (fun _ => rfl) g0 rfl rfl (gx_slr g0 rfl (by decide) rfl) (by first | decide | omega) rfl ?_
            obtain ⟨_, r173, t173, rfl, g173, e173, y173a, y173b, y173c⟩ := sc_take d n (A := 8) (B := 359) g0 StA_8 StA_359 (by unfold StD; omega)
            refine gx_callo (a := 8) rfl rfl g0 rfl rfl rfl r173 rfl ?_
            show en_ex _ _ _ _ (41, [(0, gx_r 0), (1, .inl 2), (2, .inl b)], [], t173, n, 0) _
            refine ex_go (S := (42, [(0, gx_r 0), (1, .inl 2), (2, .inl b)], [gx_r 0], t173, n, 0)) rfl (fun _ => rfl) rfl ?_
            refine gxo_ref (a := 0) (c := 139) rfl g173 rfl rfl rfl rfl rfl ?_
            refine ex_go (S := (46, [(0, gx_r 0), (1, .inl 2), (2, .inl b)], [gx_r 0, gx_r 139], t173, n, 0)) rfl (fun _ => rfl) rfl ?_
            refine gxo_ref (a := 0) (c := 137) rfl g173 rfl rfl rfl rfl rfl ?_
            refine ex_go (S := (50, [(0, gx_r 0), (1, .inl 2), (2, .inl b)], [.inl 2, gx_r 137, gx_r 139], t173, n, 0)) rfl (fun _ => rfl) rfl ?_
            refine gx_ag (v := gx_r 366) (cb := fun c => Nat.ble 4 c && Nat.ble c 7) rfl (fun _ => rfl) g173 rfl rfl (gx_slr g173 rfl (by decide) rfl) (by first | decide | omega) rfl ?_
            obtain ⟨_, r174, t174, rfl, g174, e174, w174⟩ := sk_139_366 d n g173 ((e173 366 0 (by first | decide | omega)).trans (((h7 2 (by decide)).2 (by first | decide | omega)).2)) (hv 2 (by decide) (by first | decide | omega))
            refine gx_callo (a := 139) rfl rfl g173 rfl rfl rfl r174 rfl ?_
            show en_ex _ _ _ _ (54, [(0, gx_r 0), (1, .inl 2), (2, .inl b)], [], t174, n, 0) _
            refine ex_go (S := (55, [(0, gx_r 0), (1, .inl 2), (2, .inl b)], [gx_r 0], t174, n, 0)) rfl (fun _ => rfl) rfl ?_
            refine gxo_ref (a := 0) (c := 22) rfl g174 rfl rfl rfl rfl rfl ?_
            obtain ⟨_, r175, t175, rfl, g175, e175, ka175, kb175⟩ := pz_pclear d n g174
            refine gx_callo (a := 22) rfl rfl g174 rfl rfl rfl r175 rfl ?_
            show en_ex _ _ _ _ (61, [(0, gx_r 0), (1, .inl 2), (2, .inl b)], [], t175, n, 0) _
            refine ex_go (S := (97, [(0, gx_r 0), (1, .inl 2), (2, .inl b)], [], t175, n, 0)) rfl (fun _ => rfl) rfl ?_
            refine ex_go (S := (98, [(0, gx_r 0), (1, .inl 2), (2, .inl b)], [.inl 1], t175, n, 0)) rfl (fun _ => rfl) rfl ?_
            refine ex_ret (r := (some (.inl 1), t175, n, 0)) rfl (fun _ => rfl) ?_
            refine ⟨_, rfl, 1, t175, rfl, g175, (fun c i h => (e175 c i (by first | decide | omega)).trans ((e174 c i (by first | decide | omega)).trans (e173 c i (by first | decide | omega)))), (fun z => absurd ⟨by decide, Or.inr (by first | decide | omega)⟩ z), (fun z => by omega), fun _ => ⟨rfl, SC_keep (SC_take ((h7 2 (by decide)).2 (by first | decide | omega)).1 hT hK y173a y173b y173c) (fun c i a b => (e175 c i (by first | decide | omega)).trans (e174 c i (by first | decide | omega))), (e175 139 0 (by first | decide | omega)).trans (w174), ⟨0, by decide, ka175, kb175, fun k hk => absurd hk (Nat.not_lt_zero k)⟩, fun m9 hm9 => ⟨(e175 138 m9 (by first | decide | omega)).trans ((e174 138 m9 (by first | decide | omega)).trans ((e173 138 m9 (by first | decide | omega)).trans ((h7 m9 hm9).1))), fun z => ⟨SC_keep ((h7 m9 hm9).2 z).1 (fun c i a b => (e175 c i (by first | decide | omega)).trans ((e174 c i (by first | decide | omega)).trans (e173 c i (by first | decide | omega)))), ((e175 _ _ (by first | decide | omega)).trans ((e174 _ _ (by first | decide | omega)).trans (e173 _ _ (by first | decide | omega)))).trans ((h7 m9 hm9).2 z).2⟩⟩⟩⟩
        · refine ex_go (S := (25, [(0, gx_r 0), (1, .inl 3), (2, .inl b)], [.inl b], t0, n, 0)) rfl (fun _ => rfl) rfl ?_
          by_cases hc76 : b = 0
          · refine gx_1t (c := .eq) rfl (by first | decide | omega) hc76 rfl ?_
            refine ex_go (S := (65, [(0, gx_r 0), (1, .inl 3), (2, .inl b)], [gx_r 0], t0, n, 0)) rfl (fun _ => rfl) rfl ?_
            refine gxo_ref (a := 0) (c := 136) rfl g0 rfl rfl rfl rfl rfl ?_
            refine ex_go (S := (69, [(0, gx_r 0), (1, .inl 3), (2, .inl b)], [.inl 3, gx_r 136], t0, n, 0)) rfl (fun _ => rfl) rfl ?_
            refine gx_ag (v := gx_r 371) (cb := fun c => Nat.ble 4 c && Nat.ble c 7) rfl (fun _ => rfl) g0 rfl rfl (gx_slr g0 rfl (by decide) rfl) (by first | decide | omega) rfl ?_
            refine ex_go (S := (71, [(0, gx_r 0), (1, .inl 3), (2, .inl b)], [gx_r 0, gx_r 371], t0, n, 0)) rfl (fun _ => rfl) rfl ?_
            refine gxo_ref (a := 0) (c := 8) rfl g0 rfl rfl rfl rfl rfl ?_
            obtain ⟨_, r177, t177, rfl, g177, e177, y177a, y177b, y177c⟩ := sc_take d n (A := 371) (B := 8) g0 StA_371 StA_8 (by unfold StD; omega)
            refine gx_callo (a := 371) rfl rfl g0 rfl rfl rfl r177 rfl ?_
            show en_ex _ _ _ _ (77, [(0, gx_r 0), (1, .inl 3), (2, .inl b)], [], t177, n, 0) _
            refine ex_go (S := (78, [(0, gx_r 0), (1, .inl 3), (2, .inl b)], [gx_r 0], t177, n, 0)) rfl (fun _ => rfl) rfl ?_
            refine gxo_ref (a := 0) (c := 137) rfl g177 rfl rfl rfl rfl rfl ?_
            refine ex_go (S := (82, [(0, gx_r 0), (1, .inl 3), (2, .inl b)], [.inl 3, gx_r 137], t177, n, 0)) rfl (fun _ => rfl) rfl ?_
            refine gx_ag (v := gx_r 378) (cb := fun c => Nat.ble 4 c && Nat.ble c 7) rfl (fun _ => rfl) g177 rfl rfl (gx_slr g177 rfl (by decide) rfl) (by first | decide | omega) rfl ?_
            refine ex_go (S := (84, [(0, gx_r 0), (1, .inl 3), (2, .inl b)], [gx_r 0, gx_r 378], t177, n, 0)) rfl (fun _ => rfl) rfl ?_
            refine gxo_ref (a := 0) (c := 139) rfl g177 rfl rfl rfl rfl rfl ?_
            obtain ⟨_, r178, t178, rfl, g178, e178, w178⟩ := sk_378_139 d n g177 ((e177 139 0 (by first | decide | omega)).trans (h2)) hq
            refine gx_callo (a := 378) rfl rfl g177 rfl rfl rfl r178 rfl ?_
            show en_ex _ _ _ _ (90, [(0, gx_r 0), (1, .inl 3), (2, .inl b)], [], t178, n, 0) _
            refine ex_go (S := (91, [(0, gx_r 0), (1, .inl 3), (2, .inl b)], [gx_r 0], t178, n, 0)) rfl (fun _ => rfl) rfl ?_
            refine gxo_ref (a := 0) (c := 138) rfl g178 rfl rfl rfl rfl rfl ?_
            refine ex_go (S := (95, [(0, gx_r 0), (1, .inl 3), (2, .inl b)], [.inl 3, gx_r 138], t178, n, 0)) rfl (fun _ => rfl) rfl ?_
            refine ex_go (S := (96, [(0, gx_r 0), (1, .inl 3), (2, .inl b)], [.inl 1, .inl 3, gx_r 138], t178, n, 0)) rfl (fun _ => rfl) rfl ?_
            refine gx_apv (d := 2) rfl (fun _ => rfl) g178 rfl rfl rfl (show 3 < 4 from by omega) rfl (ai_in_h (by first | decide | omega) (by first | decide | omega) (by first | decide | omega)) rfl (fun t179 g179 k179 e179 => ?_)
            refine ex_go (S := (98, [(0, gx_r 0), (1, .inl 3), (2, .inl b)], [.inl 1], t179, n, 0)) rfl (fun _ => rfl) rfl ?_
            refine ex_ret (r := (some (.inl 1), t179, n, 0)) rfl (fun _ => rfl) ?_
            refine ⟨_, rfl, 1, t179, rfl, g179, (fun c i h => (e179 c i (by first | decide | omega)).trans ((e178 c i (by first | decide | omega)).trans (e177 c i (by first | decide | omega)))), (fun z => absurd ⟨by decide, Or.inl (by first | decide | omega)⟩ z), (fun _ => ⟨rfl, SC_keep h1 (fun c i a b => (e179 c i (by first | decide | omega)).trans ((e178 c i (by first | decide | omega)).trans (e177 c i (by first | decide | omega)))), (e179 139 0 (by first | decide | omega)).trans ((e178 139 0 (by first | decide | omega)).trans ((e177 139 0 (by first | decide | omega)).trans (h2))), ⟨o, h3, (e179 22 1 (by first | decide | omega)).trans ((e178 22 1 (by first | decide | omega)).trans ((e177 22 1 (by first | decide | omega)).trans (h4))), (e179 22 2 (by first | decide | omega)).trans ((e178 22 2 (by first | decide | omega)).trans ((e177 22 2 (by first | decide | omega)).trans (h5))), fun k hk => SC_keep (h6 k hk) (fun c i a b => (e179 c i (by first | decide | omega)).trans ((e178 c i (by first | decide | omega)).trans (e177 c i (by first | decide | omega))))⟩, fun m9 hm9 => ?_⟩), fun z => by omega⟩
            by_cases e9 : m9 = 3
            · subst e9
              rw [up1_t, up1_t, up1_t]
              exact ⟨k179, fun _ => ⟨SC_keep (SC_take h1 hT hK y177a y177b y177c) (fun c i a b => (e179 c i (by first | decide | omega)).trans (e178 c i (by first | decide | omega))), (e179 378 0 (by first | decide | omega)).trans (w178)⟩⟩
            · rw [up1_f e9, up1_f e9, up1_f e9]
              exact ⟨(e179 138 m9 (by first | decide | omega)).trans ((e178 138 m9 (by first | decide | omega)).trans ((e177 138 m9 (by first | decide | omega)).trans ((h7 m9 hm9).1))), fun z => ⟨SC_keep ((h7 m9 hm9).2 z).1 (fun c i a b => (e179 c i (by first | decide | omega)).trans ((e178 c i (by first | decide | omega)).trans (e177 c i (by first | decide | omega)))), ((e179 _ _ (by first | decide | omega)).trans ((e178 _ _ (by first | decide | omega)).trans (e177 _ _ (by first | decide | omega)))).trans ((h7 m9 hm9).2 z).2⟩⟩
          · refine gx_1f (c := .eq) rfl (by first | decide | omega) hc76 rfl ?_
            refine ex_go (S := (29, [(0, gx_r 0), (1, .inl 3), (2, .inl b)], [gx_r 0], t0, n, 0)) rfl (fun _ => rfl) rfl ?_
            refine gxo_ref (a := 0) (c := 8) rfl g0 rfl rfl rfl rfl rfl ?_
            refine ex_go (S := (33, [(0, gx_r 0), (1, .inl 3), (2, .inl b)], [gx_r 0, gx_r 8], t0, n, 0)) rfl (fun _ => rfl) rfl ?_
            refine gxo_ref (a := 0) (c := 136) rfl g0 rfl rfl rfl rfl rfl ?_
            refine ex_go (S := (37, [(0, gx_r 0), (1, .inl 3), (2, .inl b)], [.inl 3, gx_r 136, gx_r 8], t0, n, 0)) rfl (fun _ => rfl) rfl ?_
            refine gx_ag (v := gx_r 371) (cb := fun c => Nat.ble 4 c && Nat.ble c 7) rfl (fun _ => rfl) g0 rfl rfl (gx_slr g0 rfl (by decide) rfl) (by first | decide | omega) rfl ?_
            obtain ⟨_, r180, t180, rfl, g180, e180, y180a, y180b, y180c⟩ := sc_take d n (A := 8) (B := 371) g0 StA_8 StA_371 (by unfold StD; omega)
            refine gx_callo (a := 8) rfl rfl g0 rfl rfl rfl r180 rfl ?_
            show en_ex _ _ _ _ (41, [(0, gx_r 0), (1, .inl 3), (2, .inl b)], [], t180, n, 0) _
            refine ex_go (S := (42, [(0, gx_r 0), (1, .inl 3), (2, .inl b)], [gx_r 0], t180, n, 0)) rfl (fun _ => rfl) rfl ?_
            refine gxo_ref (a := 0) (c := 139) rfl g180 rfl rfl rfl rfl rfl ?_
            refine ex_go (S := (46, [(0, gx_r 0), (1, .inl 3), (2, .inl b)], [gx_r 0, gx_r 139], t180, n, 0)) rfl (fun _ => rfl) rfl ?_
            refine gxo_ref (a := 0) (c := 137) rfl g180 rfl rfl rfl rfl rfl ?_
            refine ex_go (S := (50, [(0, gx_r 0), (1, .inl 3), (2, .inl b)], [.inl 3, gx_r 137, gx_r 139], t180, n, 0)) rfl (fun _ => rfl) rfl ?_
            refine gx_ag (v := gx_r 378) (cb := fun c => Nat.ble 4 c && Nat.ble c 7) rfl (fun _ => rfl) g180 rfl rfl (gx_slr g180 rfl (by decide) rfl) (by first | decide | omega) rfl ?_
            obtain ⟨_, r181, t181, rfl, g181, e181, w181⟩ := sk_139_378 d n g180 ((e180 378 0 (by first | decide | omega)).trans (((h7 3 (by decide)).2 (by first | decide | omega)).2)) (hv 3 (by decide) (by first | decide | omega))
            refine gx_callo (a := 139) rfl rfl g180 rfl rfl rfl r181 rfl ?_
            show en_ex _ _ _ _ (54, [(0, gx_r 0), (1, .inl 3), (2, .inl b)], [], t181, n, 0) _
            refine ex_go (S := (55, [(0, gx_r 0), (1, .inl 3), (2, .inl b)], [gx_r 0], t181, n, 0)) rfl (fun _ => rfl) rfl ?_
            refine gxo_ref (a := 0) (c := 22) rfl g181 rfl rfl rfl rfl rfl ?_
            obtain ⟨_, r182, t182, rfl, g182, e182, ka182, kb182⟩ := pz_pclear d n g181
            refine gx_callo (a := 22) rfl rfl g181 rfl rfl rfl r182 rfl ?_
            show en_ex _ _ _ _ (61, [(0, gx_r 0), (1, .inl 3), (2, .inl b)], [], t182, n, 0) _
            refine ex_go (S := (97, [(0, gx_r 0), (1, .inl 3), (2, .inl b)], [], t182, n, 0)) rfl (fun _ => rfl) rfl ?_
            refine ex_go (S := (98, [(0, gx_r 0), (1, .inl 3), (2, .inl b)], [.inl 1], t182, n, 0)) rfl (fun _ => rfl) rfl ?_
            refine ex_ret (r := (some (.inl 1), t182, n, 0)) rfl (fun _ => rfl) ?_
            refine ⟨_, rfl, 1, t182, rfl, g182, (fun c i h => (e182 c i (by first | decide | omega)).trans ((e181 c i (by first | decide | omega)).trans (e180 c i (by first | decide | omega)))), (fun z => absurd ⟨by decide, Or.inr (by first | decide | omega)⟩ z), (fun z => by omega), fun _ => ⟨rfl, SC_keep (SC_take ((h7 3 (by decide)).2 (by first | decide | omega)).1 hT hK y180a y180b y180c) (fun c i a b => (e182 c i (by first | decide | omega)).trans (e181 c i (by first | decide | omega))), (e182 139 0 (by first | decide | omega)).trans (w181), ⟨0, by decide, ka182, kb182, fun k hk => absurd hk (Nat.not_lt_zero k)⟩, fun m9 hm9 => ⟨(e182 138 m9 (by first | decide | omega)).trans ((e181 138 m9 (by first | decide | omega)).trans ((e180 138 m9 (by first | decide | omega)).trans ((h7 m9 hm9).1))), fun z => ⟨SC_keep ((h7 m9 hm9).2 z).1 (fun c i a b => (e182 c i (by first | decide | omega)).trans ((e181 c i (by first | decide | omega)).trans (e180 c i (by first | decide | omega)))), ((e182 _ _ (by first | decide | omega)).trans ((e181 _ _ (by first | decide | omega)).trans (e180 _ _ (by first | decide | omega)))).trans ((h7 m9 hm9).2 z).2⟩⟩⟩⟩
      · refine gx_1f (c := .ne) rfl (by first | decide | omega) hc54 rfl ?_
        refine ex_go (S := (23, [(0, gx_r 0), (1, .inl m), (2, .inl b)], [.inl 0], t0, n, 0)) rfl (fun _ => rfl) rfl ?_
        refine ex_ret (r := (some (.inl 0), t0, n, 0)) rfl (fun _ => rfl) ?_
        exact ⟨_, rfl, 0, t0, rfl, g0, (fun _ _ _ => rfl), (fun _ => ⟨rfl, hS0⟩), (fun z => by omega), fun z => by omega⟩
set_option maxRecDepth 1000000 in
theorem sr_mark (d n : Nat) {t0 : en_H} {u q m b : Nat} {σ F v : Nat → Nat} {τ μ : Nat → Nat → Nat} (g0 : ai_HG ah_G t0) (hm : m < 4294967296) (hb : b ≤ 1) (hF : ∀ i, i < 4 → F i ≤ 1) (hu : u ≤ 16) (hS : RS t0 σ u τ F μ q v) : ∃ r, en_u (d + 2) 84 [gx_r 383, .inl m, .inl b] t0 n = some r ∧ ∃ z t', r = (some (.inl z), t', n, 0) ∧ ai_HG ah_G t' ∧ (∀ c i, ¬ ((c = 399 ∧ i < 225) ∨ (c = 383 ∧ (i = 0 ∨ i = 26)) ∨ c = 400) → ai_hv t' c i = ai_hv t0 c i) ∧ (¬ (m ≤ 3 ∧ (b = 0 ∨ F m = 1)) → z = 0 ∧ RS t' σ u τ F μ q v) ∧ (m ≤ 3 ∧ b = 0 → z = 1 ∧ RS t' σ u τ (up1 F m 1) (up1 μ m σ) q (up1 v m q)) ∧ (m ≤ 3 ∧ b = 1 ∧ F m = 1 → z = 1 ∧ RS t' (μ m) 0 τ F μ (v m) v) := by
  have hS0 := hS
  obtain ⟨h1, h2, ⟨h3, h4⟩, h7⟩ := hS
  refine en_u_ex (d := d + 1) rfl ?_
  show en_ex _ _ _ _ (0, [(0, gx_r 383), (1, .inl m), (2, .inl b)], [], t0, n, 0) _
  refine ex_go (S := (1, [(0, gx_r 383), (1, .inl m), (2, .inl b)], [gx_r 383], t0, n, 0)) rfl (fun _ => rfl) rfl ?_
  refine ex_go (S := (2, [(0, gx_r 383), (1, .inl m), (2, .inl b)], [.inl 0, gx_r 383], t0, n, 0)) rfl (fun _ => rfl) rfl ?_
  refine gx_put rfl g0 rfl rfl (ai_in_h (by first | decide | omega) (by first | decide | omega) (by first | decide | omega)) rfl (fun t121 g121 k121 e121 => ?_)
  refine ex_go (S := (6, [(0, gx_r 383), (1, .inl m), (2, .inl b)], [.inl m], t121, n, 0)) rfl (fun _ => rfl) rfl ?_
  refine ex_go (S := (7, [(0, gx_r 383), (1, .inl m), (2, .inl b)], [.inl 0, .inl m], t121, n, 0)) rfl (fun _ => rfl) rfl ?_
  refine ex_go (S := (8, [(0, gx_r 383), (1, .inl m), (2, .inl b)], [.inl 3, .inl 0, .inl m], t121, n, 0)) rfl (fun _ => rfl) rfl ?_
  obtain ⟨_, r22, b23, rfl, b23b, q24⟩ := pz_within (d) n (t0 := t121) (x := m) (lo := 0) (hi := 3) (by first | decide | omega) (by first | decide | omega) (by first | decide | omega)
  refine ex_stat rfl rfl rfl rfl rfl r22 (Nat.le_refl _) rfl ?_
  show en_ex _ _ _ _ (11, [(0, gx_r 383), (1, .inl m), (2, .inl b)], [.inl b23], t121, n, 0) _
  by_cases hc25 : b23 = 0
  · refine gx_1t (c := .eq) rfl (by first | decide | omega) hc25 rfl ?_
    refine ex_go (S := (28, [(0, gx_r 383), (1, .inl m), (2, .inl b)], [.inl 0], t121, n, 0)) rfl (fun _ => rfl) rfl ?_
    refine ex_ret (r := (some (.inl 0), t121, n, 0)) rfl (fun _ => rfl) ?_
    exact ⟨_, rfl, 0, t121, rfl, g121, (fun c i h => e121 c i (by first | decide | omega)), (fun _ => ⟨rfl, RS_keep hS0 hu (fun c i h => by unfold RSC at h; exact e121 c i (by first | decide | omega))⟩), (fun z => by omega), fun z => by omega⟩
  · refine gx_1f (c := .eq) rfl (by first | decide | omega) hc25 rfl ?_
    refine ex_go (S := (15, [(0, gx_r 383), (1, .inl m), (2, .inl b)], [.inl b], t121, n, 0)) rfl (fun _ => rfl) rfl ?_
    by_cases hc26 : b = 0
    · refine gx_1t (c := .eq) rfl (by first | decide | omega) hc26 rfl ?_
      rcases (show m = 0 ∨ m = 1 ∨ m = 2 ∨ m = 3 by omega) with rfl | rfl | rfl | rfl
      · refine ex_go (S := (30, [(0, gx_r 383), (1, .inl 0), (2, .inl b)], [gx_r 383], t121, n, 0)) rfl (fun _ => rfl) rfl ?_
        refine gx_ref (c := 400) rfl g121 rfl rfl rfl rfl ?_
        refine ex_go (S := (34, [(0, gx_r 383), (1, .inl 0), (2, .inl b)], [.inl 0, gx_r 400], t121, n, 0)) rfl (fun _ => rfl) rfl ?_
        refine ex_go (S := (35, [(0, gx_r 383), (1, .inl 0), (2, .inl b)], [.inl 1, .inl 0, gx_r 400], t121, n, 0)) rfl (fun _ => rfl) rfl ?_
        refine gx_apv (d := 2) rfl (fun _ => rfl) g121 rfl rfl rfl (show 0 < 4 from by omega) rfl (ai_in_h (by first | decide | omega) (by first | decide | omega) (by first | decide | omega)) rfl (fun t127 g127 k127 e127 => ?_)
        refine ex_go (S := (37, [(0, gx_r 383), (1, .inl 0), (2, .inl b)], [gx_r 383], t127, n, 0)) rfl (fun _ => rfl) rfl ?_
        refine ex_go (S := (38, [(0, gx_r 383), (1, .inl 0), (2, .inl b)], [.inl b, gx_r 383], t127, n, 0)) rfl (fun _ => rfl) rfl ?_
        by_cases hc28 : b = 0
        · refine gx_1t (c := .eq) rfl (by first | decide | omega) hc28 rfl ?_
          refine ex_go (S := (51, [(0, gx_r 383), (1, .inl 0), (2, .inl b)], [.inl 0, gx_r 383], t127, n, 0)) rfl (fun _ => rfl) rfl ?_
          refine ex_go (S := (52, [(0, gx_r 383), (1, .inl 0), (2, .inl b)], [.inl b, .inl 0, gx_r 383], t127, n, 0)) rfl (fun _ => rfl) rfl ?_
          by_cases hc29 : b = 0
          · refine gx_1t (c := .eq) rfl (by first | decide | omega) hc29 rfl ?_
            refine ex_go (S := (61, [(0, gx_r 383), (1, .inl 0), (2, .inl b)], [.inl 45, .inl 0, gx_r 383], t127, n, 0)) rfl (fun _ => rfl) rfl ?_
            refine ex_go (S := (62, [(0, gx_r 383), (1, .inl 0), (2, .inl b)], [.inl 1, .inl 45, .inl 0, gx_r 383], t127, n, 0)) rfl (fun _ => rfl) rfl ?_
            refine ex_go (S := (63, [(0, gx_r 383), (1, .inl 0), (2, .inl b)], [.inl 0, .inl 1, .inl 45, .inl 0, gx_r 383], t127, n, 0)) rfl (fun _ => rfl) rfl ?_
            refine ex_go (S := (64, [(0, gx_r 383), (1, .inl 0), (2, .inl b)], [.inl 1, .inl 45, .inl 0, gx_r 383], t127, n, 0)) rfl (fun _ => rfl) rfl ?_
            refine ex_go (S := (65, [(0, gx_r 383), (1, .inl 0), (2, .inl b)], [.inl 45, .inl 0, gx_r 383], t127, n, 0)) rfl (fun _ => rfl) rfl ?_
            refine ex_go (S := (67, [(0, gx_r 383), (1, .inl 0), (2, .inl b)], [.inl 45, .inl 45, .inl 0, gx_r 383], t127, n, 0)) rfl (fun _ => rfl) rfl ?_
            obtain ⟨_, r130, t130, rfl, g130, e130, y130⟩ := pe_copies d n (f := 0) (t := 45) (m := 45) g127 (by decide +kernel) (by decide) (by decide) (by decide) (by decide)
            refine gx_call0 rfl rfl g127 rfl rfl r130 rfl ?_
            have k31 : ai_hv t130 400 0 = some (.inl 1) := (e130 400 0 (by first | decide | omega)).trans k127
            show en_ex _ _ _ _ (70, [(0, gx_r 383), (1, .inl 0), (2, .inl b)], [], t130, n, 0) _
            refine ex_go (S := (71, [(0, gx_r 383), (1, .inl 0), (2, .inl b)], [gx_r 383], t130, n, 0)) rfl (fun _ => rfl) rfl ?_
            refine ex_go (S := (72, [(0, gx_r 383), (1, .inl 0), (2, .inl b)], [.inl b, gx_r 383], t130, n, 0)) rfl (fun _ => rfl) rfl ?_
            by_cases hc32 : b = 0
            · refine gx_1t (c := .eq) rfl (by first | decide | omega) hc32 rfl ?_
              refine ex_go (S := (80, [(0, gx_r 383), (1, .inl 0), (2, .inl b)], [gx_r 383, gx_r 383], t130, n, 0)) rfl (fun _ => rfl) rfl ?_
              have k33 := (e130 383 26 (by first | decide | omega)).trans ((e127 383 26 (by first | decide | omega)).trans ((e121 383 26 (by first | decide | omega)).trans (h3)))
              refine gx_get rfl g130 rfl k33 rfl ?_
              refine gx_put rfl g130 rfl rfl (ai_in_h (by first | decide | omega) (by first | decide | omega) (by first | decide | omega)) rfl (fun t134 g134 k134 e134 => ?_)
              have k35 : ai_hv t134 400 0 = some (.inl 1) := (e134 400 0 (by first | decide | omega)).trans k31
              refine ex_go (S := (87, [(0, gx_r 383), (1, .inl 0), (2, .inl b)], [.inl 1], t134, n, 0)) rfl (fun _ => rfl) rfl ?_
              refine ex_ret (r := (some (.inl 1), t134, n, 0)) rfl (fun _ => rfl) ?_
              have h399 : ∀ i, ai_hv t134 399 i = if 45 ≤ i ∧ i < 45 + 45 then ai_hv t0 399 (i - 45 + 0) else ai_hv t0 399 i := fun i => by
                refine (e134 399 i (by first | decide | omega)).trans ?_
                rw [y130]
                by_cases c9 : 45 ≤ i ∧ i < 45 + 45
                · rw [if_pos c9, if_pos c9]; exact (e127 399 _ (by first | decide | omega)).trans (e121 399 _ (by first | decide | omega))
                · rw [if_neg c9, if_neg c9]; exact (e127 399 i (by first | decide | omega)).trans (e121 399 i (by first | decide | omega))
              have hot : ∀ c i, c ≠ 399 → ¬ (c = 383 ∧ (i = 0 ∨ i = 26)) → ¬ (c = 400 ∧ i = 0) → ai_hv t134 c i = ai_hv t0 c i := fun c i h8 h9 h10 => (e134 c i (by first | decide | omega)).trans ((e130 c i (by first | decide | omega)).trans ((e127 c i (by first | decide | omega)).trans (e121 c i (by first | decide | omega))))
              have hfr : (∀ c i, ¬ ((c = 399 ∧ i < 225) ∨ (c = 383 ∧ (i = 0 ∨ i = 26)) ∨ c = 400) → ai_hv t134 c i = ai_hv t0 c i) := fun c i h => by
                by_cases c9 : c = 399
                · subst c9; rw [h399, if_neg (by first | decide | omega)]
                · exact hot c i c9 (by first | decide | omega) (by first | decide | omega)
              refine ⟨_, rfl, 1, t134, rfl, g134, hfr, (fun z => absurd ⟨by decide, Or.inl (by first | decide | omega)⟩ z), (fun _ => ⟨rfl, (fun j hj => ?_), ?_, ⟨k134, fun k hk j hj => ?_⟩, fun m9 hm9 => ?_⟩), fun z => by omega⟩
              · rw [h399, if_neg (by first | decide | omega)]; exact h1 j hj
              · rw [h399, if_neg (by decide)]; exact h2
              · rw [h399, if_neg (by first | decide | omega)]; exact h4 k hk j hj
              · by_cases e9 : m9 = 0
                · subst e9
                  rw [up1_t, up1_t, up1_t]
                  exact ⟨k35, fun _ => ⟨fun j hj => by
                    rw [h399, if_pos (by first | decide | omega), show 45 * (1 + 0) + j - 45 + 0 = 0 + j by omega]; exact h1 j hj, by
                    rw [h399, if_pos (by decide)]; exact h2⟩⟩
                · rw [up1_f e9, up1_f e9, up1_f e9]
                  exact ⟨(hot _ _ (by decide) (by first | decide | omega) (by first | decide | omega)).trans (h7 m9 hm9).1, fun z => ⟨fun j hj => by
                    rw [h399, if_neg (by first | decide | omega)]; exact ((h7 m9 hm9).2 z).1 j hj, by
                    rw [h399, if_neg (by first | decide | omega)]; exact ((h7 m9 hm9).2 z).2⟩⟩
            · refine gx_1f (c := .eq) rfl (by first | decide | omega) hc32 rfl ?_
              refine ex_go (S := (76, [(0, gx_r 383), (1, .inl 0), (2, .inl b)], [.inl 0, gx_r 383], t130, n, 0)) rfl (fun _ => rfl) rfl ?_
              refine ex_go (S := (83, [(0, gx_r 383), (1, .inl 0), (2, .inl b)], [.inl 0, gx_r 383], t130, n, 0)) rfl (fun _ => rfl) rfl ?_
              refine gx_put rfl g130 rfl rfl (ai_in_h (by first | decide | omega) (by first | decide | omega) (by first | decide | omega)) rfl (fun t136 g136 k136 e136 => ?_)
              have k37 : ai_hv t136 400 0 = some (.inl 1) := (e136 400 0 (by first | decide | omega)).trans k31
              refine ex_go (S := (87, [(0, gx_r 383), (1, .inl 0), (2, .inl b)], [.inl 1], t136, n, 0)) rfl (fun _ => rfl) rfl ?_
              refine ex_ret (r := (some (.inl 1), t136, n, 0)) rfl (fun _ => rfl) ?_
              omega
          · refine gx_1f (c := .eq) rfl (by first | decide | omega) hc29 rfl ?_
            refine ex_go (S := (56, [(0, gx_r 383), (1, .inl 0), (2, .inl b)], [.inl 0, .inl 0, gx_r 383], t127, n, 0)) rfl (fun _ => rfl) rfl ?_
            refine ex_go (S := (65, [(0, gx_r 383), (1, .inl 0), (2, .inl b)], [.inl 0, .inl 0, gx_r 383], t127, n, 0)) rfl (fun _ => rfl) rfl ?_
            refine ex_go (S := (67, [(0, gx_r 383), (1, .inl 0), (2, .inl b)], [.inl 45, .inl 0, .inl 0, gx_r 383], t127, n, 0)) rfl (fun _ => rfl) rfl ?_
            omega
        · refine gx_1f (c := .eq) rfl (by first | decide | omega) hc28 rfl ?_
          refine ex_go (S := (43, [(0, gx_r 383), (1, .inl 0), (2, .inl b)], [.inl 45, gx_r 383], t127, n, 0)) rfl (fun _ => rfl) rfl ?_
          refine ex_go (S := (44, [(0, gx_r 383), (1, .inl 0), (2, .inl b)], [.inl 1, .inl 45, gx_r 383], t127, n, 0)) rfl (fun _ => rfl) rfl ?_
          refine ex_go (S := (45, [(0, gx_r 383), (1, .inl 0), (2, .inl b)], [.inl 0, .inl 1, .inl 45, gx_r 383], t127, n, 0)) rfl (fun _ => rfl) rfl ?_
          refine ex_go (S := (46, [(0, gx_r 383), (1, .inl 0), (2, .inl b)], [.inl 1, .inl 45, gx_r 383], t127, n, 0)) rfl (fun _ => rfl) rfl ?_
          refine ex_go (S := (47, [(0, gx_r 383), (1, .inl 0), (2, .inl b)], [.inl 45, gx_r 383], t127, n, 0)) rfl (fun _ => rfl) rfl ?_
          refine ex_go (S := (51, [(0, gx_r 383), (1, .inl 0), (2, .inl b)], [.inl 45, gx_r 383], t127, n, 0)) rfl (fun _ => rfl) rfl ?_
          refine ex_go (S := (52, [(0, gx_r 383), (1, .inl 0), (2, .inl b)], [.inl b, .inl 45, gx_r 383], t127, n, 0)) rfl (fun _ => rfl) rfl ?_
          by_cases hc38 : b = 0
          · refine gx_1t (c := .eq) rfl (by first | decide | omega) hc38 rfl ?_
            refine ex_go (S := (61, [(0, gx_r 383), (1, .inl 0), (2, .inl b)], [.inl 45, .inl 45, gx_r 383], t127, n, 0)) rfl (fun _ => rfl) rfl ?_
            refine ex_go (S := (62, [(0, gx_r 383), (1, .inl 0), (2, .inl b)], [.inl 1, .inl 45, .inl 45, gx_r 383], t127, n, 0)) rfl (fun _ => rfl) rfl ?_
            refine ex_go (S := (63, [(0, gx_r 383), (1, .inl 0), (2, .inl b)], [.inl 0, .inl 1, .inl 45, .inl 45, gx_r 383], t127, n, 0)) rfl (fun _ => rfl) rfl ?_
            refine ex_go (S := (64, [(0, gx_r 383), (1, .inl 0), (2, .inl b)], [.inl 1, .inl 45, .inl 45, gx_r 383], t127, n, 0)) rfl (fun _ => rfl) rfl ?_
            refine ex_go (S := (65, [(0, gx_r 383), (1, .inl 0), (2, .inl b)], [.inl 45, .inl 45, gx_r 383], t127, n, 0)) rfl (fun _ => rfl) rfl ?_
            refine ex_go (S := (67, [(0, gx_r 383), (1, .inl 0), (2, .inl b)], [.inl 45, .inl 45, .inl 45, gx_r 383], t127, n, 0)) rfl (fun _ => rfl) rfl ?_
            omega
          · refine gx_1f (c := .eq) rfl (by first | decide | omega) hc38 rfl ?_
            refine ex_go (S := (56, [(0, gx_r 383), (1, .inl 0), (2, .inl b)], [.inl 0, .inl 45, gx_r 383], t127, n, 0)) rfl (fun _ => rfl) rfl ?_
            refine ex_go (S := (65, [(0, gx_r 383), (1, .inl 0), (2, .inl b)], [.inl 0, .inl 45, gx_r 383], t127, n, 0)) rfl (fun _ => rfl) rfl ?_
            refine ex_go (S := (67, [(0, gx_r 383), (1, .inl 0), (2, .inl b)], [.inl 45, .inl 0, .inl 45, gx_r 383], t127, n, 0)) rfl (fun _ => rfl) rfl ?_
            obtain ⟨_, r139, t139, rfl, g139, e139, y139⟩ := pe_copies d n (f := 45) (t := 0) (m := 45) g127 (by decide +kernel) (by decide) (by decide) (by decide) (by decide)
            refine gx_call0 rfl rfl g127 rfl rfl r139 rfl ?_
            have k40 : ai_hv t139 400 0 = some (.inl 1) := (e139 400 0 (by first | decide | omega)).trans k127
            show en_ex _ _ _ _ (70, [(0, gx_r 383), (1, .inl 0), (2, .inl b)], [], t139, n, 0) _
            refine ex_go (S := (71, [(0, gx_r 383), (1, .inl 0), (2, .inl b)], [gx_r 383], t139, n, 0)) rfl (fun _ => rfl) rfl ?_
            refine ex_go (S := (72, [(0, gx_r 383), (1, .inl 0), (2, .inl b)], [.inl b, gx_r 383], t139, n, 0)) rfl (fun _ => rfl) rfl ?_
            by_cases hc41 : b = 0
            · refine gx_1t (c := .eq) rfl (by first | decide | omega) hc41 rfl ?_
              refine ex_go (S := (80, [(0, gx_r 383), (1, .inl 0), (2, .inl b)], [gx_r 383, gx_r 383], t139, n, 0)) rfl (fun _ => rfl) rfl ?_
              have k42 := (e139 383 26 (by first | decide | omega)).trans ((e127 383 26 (by first | decide | omega)).trans ((e121 383 26 (by first | decide | omega)).trans (h3)))
              refine gx_get rfl g139 rfl k42 rfl ?_
              refine gx_put rfl g139 rfl rfl (ai_in_h (by first | decide | omega) (by first | decide | omega) (by first | decide | omega)) rfl (fun t143 g143 k143 e143 => ?_)
              have k44 : ai_hv t143 400 0 = some (.inl 1) := (e143 400 0 (by first | decide | omega)).trans k40
              refine ex_go (S := (87, [(0, gx_r 383), (1, .inl 0), (2, .inl b)], [.inl 1], t143, n, 0)) rfl (fun _ => rfl) rfl ?_
              refine ex_ret (r := (some (.inl 1), t143, n, 0)) rfl (fun _ => rfl) ?_
              omega
            · refine gx_1f (c := .eq) rfl (by first | decide | omega) hc41 rfl ?_
              refine ex_go (S := (76, [(0, gx_r 383), (1, .inl 0), (2, .inl b)], [.inl 0, gx_r 383], t139, n, 0)) rfl (fun _ => rfl) rfl ?_
              refine ex_go (S := (83, [(0, gx_r 383), (1, .inl 0), (2, .inl b)], [.inl 0, gx_r 383], t139, n, 0)) rfl (fun _ => rfl) rfl ?_
              refine gx_put rfl g139 rfl rfl (ai_in_h (by first | decide | omega) (by first | decide | omega) (by first | decide | omega)) rfl (fun t145 g145 k145 e145 => ?_)
              have k46 : ai_hv t145 400 0 = some (.inl 1) := (e145 400 0 (by first | decide | omega)).trans k40
              refine ex_go (S := (87, [(0, gx_r 383), (1, .inl 0), (2, .inl b)], [.inl 1], t145, n, 0)) rfl (fun _ => rfl) rfl ?_
              refine ex_ret (r := (some (.inl 1), t145, n, 0)) rfl (fun _ => rfl) ?_
              have h399 : ∀ i, ai_hv t145 399 i = if 0 ≤ i ∧ i < 0 + 45 then ai_hv t0 399 (i - 0 + 45) else ai_hv t0 399 i := fun i => by
                refine (e145 399 i (by first | decide | omega)).trans ?_
                rw [y139]
                by_cases c9 : 0 ≤ i ∧ i < 0 + 45
                · rw [if_pos c9, if_pos c9]; exact (e127 399 _ (by first | decide | omega)).trans (e121 399 _ (by first | decide | omega))
                · rw [if_neg c9, if_neg c9]; exact (e127 399 i (by first | decide | omega)).trans (e121 399 i (by first | decide | omega))
              have hot : ∀ c i, c ≠ 399 → ¬ (c = 383 ∧ (i = 0 ∨ i = 26)) → ¬ (c = 400 ∧ i = 0) → ai_hv t145 c i = ai_hv t0 c i := fun c i h8 h9 h10 => (e145 c i (by first | decide | omega)).trans ((e139 c i (by first | decide | omega)).trans ((e127 c i (by first | decide | omega)).trans (e121 c i (by first | decide | omega))))
              have hfr : (∀ c i, ¬ ((c = 399 ∧ i < 225) ∨ (c = 383 ∧ (i = 0 ∨ i = 26)) ∨ c = 400) → ai_hv t145 c i = ai_hv t0 c i) := fun c i h => by
                by_cases c9 : c = 399
                · subst c9; rw [h399, if_neg (by first | decide | omega)]
                · exact hot c i c9 (by first | decide | omega) (by first | decide | omega)
              have hy9 := (h7 0 (by decide)).2 (by first | decide | omega)
              refine ⟨_, rfl, 1, t145, rfl, g145, hfr, (fun z => absurd ⟨by decide, Or.inr (by first | decide | omega)⟩ z), (fun z => by omega), fun _ => ⟨rfl, (fun j hj => ?_), ?_, ⟨k145, fun k hk => absurd hk (Nat.not_lt_zero k)⟩, fun m9 hm9 => ?_⟩⟩
              · rw [h399, if_pos (by first | decide | omega), show 0 + j - 0 + 45 = 45 * (1 + 0) + j by omega]; exact hy9.1 j hj
              · rw [h399, if_pos (by decide)]; exact hy9.2
              · refine ⟨?_, fun z => ⟨fun j hj => by
                  rw [h399, if_neg (by first | decide | omega)]; exact ((h7 m9 hm9).2 z).1 j hj, by
                  rw [h399, if_neg (by first | decide | omega)]; exact ((h7 m9 hm9).2 z).2⟩⟩
                by_cases e9 : m9 = 0
                · subst e9
                  rw [show F 0 = 1 by omega]; exact k46
                · exact (hot _ _ (by decide) (by first | decide | omega) (by first | decide | omega)).trans (h7 m9 hm9).1
      · refine ex_go (S := (30, [(0, gx_r 383), (1, .inl 1), (2, .inl b)], [gx_r 383], t121, n, 0)) rfl (fun _ => rfl) rfl ?_
        refine gx_ref (c := 400) rfl g121 rfl rfl rfl rfl ?_
        refine ex_go (S := (34, [(0, gx_r 383), (1, .inl 1), (2, .inl b)], [.inl 1, gx_r 400], t121, n, 0)) rfl (fun _ => rfl) rfl ?_
        refine ex_go (S := (35, [(0, gx_r 383), (1, .inl 1), (2, .inl b)], [.inl 1, .inl 1, gx_r 400], t121, n, 0)) rfl (fun _ => rfl) rfl ?_
        refine gx_apv (d := 2) rfl (fun _ => rfl) g121 rfl rfl rfl (show 1 < 4 from by omega) rfl (ai_in_h (by first | decide | omega) (by first | decide | omega) (by first | decide | omega)) rfl (fun t147 g147 k147 e147 => ?_)
        refine ex_go (S := (37, [(0, gx_r 383), (1, .inl 1), (2, .inl b)], [gx_r 383], t147, n, 0)) rfl (fun _ => rfl) rfl ?_
        refine ex_go (S := (38, [(0, gx_r 383), (1, .inl 1), (2, .inl b)], [.inl b, gx_r 383], t147, n, 0)) rfl (fun _ => rfl) rfl ?_
        by_cases hc48 : b = 0
        · refine gx_1t (c := .eq) rfl (by first | decide | omega) hc48 rfl ?_
          refine ex_go (S := (51, [(0, gx_r 383), (1, .inl 1), (2, .inl b)], [.inl 0, gx_r 383], t147, n, 0)) rfl (fun _ => rfl) rfl ?_
          refine ex_go (S := (52, [(0, gx_r 383), (1, .inl 1), (2, .inl b)], [.inl b, .inl 0, gx_r 383], t147, n, 0)) rfl (fun _ => rfl) rfl ?_
          by_cases hc49 : b = 0
          · refine gx_1t (c := .eq) rfl (by first | decide | omega) hc49 rfl ?_
            refine ex_go (S := (61, [(0, gx_r 383), (1, .inl 1), (2, .inl b)], [.inl 45, .inl 0, gx_r 383], t147, n, 0)) rfl (fun _ => rfl) rfl ?_
            refine ex_go (S := (62, [(0, gx_r 383), (1, .inl 1), (2, .inl b)], [.inl 1, .inl 45, .inl 0, gx_r 383], t147, n, 0)) rfl (fun _ => rfl) rfl ?_
            refine ex_go (S := (63, [(0, gx_r 383), (1, .inl 1), (2, .inl b)], [.inl 1, .inl 1, .inl 45, .inl 0, gx_r 383], t147, n, 0)) rfl (fun _ => rfl) rfl ?_
            refine ex_go (S := (64, [(0, gx_r 383), (1, .inl 1), (2, .inl b)], [.inl 2, .inl 45, .inl 0, gx_r 383], t147, n, 0)) rfl (fun _ => rfl) rfl ?_
            refine ex_go (S := (65, [(0, gx_r 383), (1, .inl 1), (2, .inl b)], [.inl 90, .inl 0, gx_r 383], t147, n, 0)) rfl (fun _ => rfl) rfl ?_
            refine ex_go (S := (67, [(0, gx_r 383), (1, .inl 1), (2, .inl b)], [.inl 45, .inl 90, .inl 0, gx_r 383], t147, n, 0)) rfl (fun _ => rfl) rfl ?_
            obtain ⟨_, r150, t150, rfl, g150, e150, y150⟩ := pe_copies d n (f := 0) (t := 90) (m := 45) g147 (by decide +kernel) (by decide) (by decide) (by decide) (by decide)
            refine gx_call0 rfl rfl g147 rfl rfl r150 rfl ?_
            have k51 : ai_hv t150 400 1 = some (.inl 1) := (e150 400 1 (by first | decide | omega)).trans k147
            show en_ex _ _ _ _ (70, [(0, gx_r 383), (1, .inl 1), (2, .inl b)], [], t150, n, 0) _
            refine ex_go (S := (71, [(0, gx_r 383), (1, .inl 1), (2, .inl b)], [gx_r 383], t150, n, 0)) rfl (fun _ => rfl) rfl ?_
            refine ex_go (S := (72, [(0, gx_r 383), (1, .inl 1), (2, .inl b)], [.inl b, gx_r 383], t150, n, 0)) rfl (fun _ => rfl) rfl ?_
            by_cases hc52 : b = 0
            · refine gx_1t (c := .eq) rfl (by first | decide | omega) hc52 rfl ?_
              refine ex_go (S := (80, [(0, gx_r 383), (1, .inl 1), (2, .inl b)], [gx_r 383, gx_r 383], t150, n, 0)) rfl (fun _ => rfl) rfl ?_
              have k53 := (e150 383 26 (by first | decide | omega)).trans ((e147 383 26 (by first | decide | omega)).trans ((e121 383 26 (by first | decide | omega)).trans (h3)))
              refine gx_get rfl g150 rfl k53 rfl ?_
              refine gx_put rfl g150 rfl rfl (ai_in_h (by first | decide | omega) (by first | decide | omega) (by first | decide | omega)) rfl (fun t154 g154 k154 e154 => ?_)
              have k55 : ai_hv t154 400 1 = some (.inl 1) := (e154 400 1 (by first | decide | omega)).trans k51
              refine ex_go (S := (87, [(0, gx_r 383), (1, .inl 1), (2, .inl b)], [.inl 1], t154, n, 0)) rfl (fun _ => rfl) rfl ?_
              refine ex_ret (r := (some (.inl 1), t154, n, 0)) rfl (fun _ => rfl) ?_
              have h399 : ∀ i, ai_hv t154 399 i = if 90 ≤ i ∧ i < 90 + 45 then ai_hv t0 399 (i - 90 + 0) else ai_hv t0 399 i := fun i => by
                refine (e154 399 i (by first | decide | omega)).trans ?_
                rw [y150]
                by_cases c9 : 90 ≤ i ∧ i < 90 + 45
                · rw [if_pos c9, if_pos c9]; exact (e147 399 _ (by first | decide | omega)).trans (e121 399 _ (by first | decide | omega))
                · rw [if_neg c9, if_neg c9]; exact (e147 399 i (by first | decide | omega)).trans (e121 399 i (by first | decide | omega))
              have hot : ∀ c i, c ≠ 399 → ¬ (c = 383 ∧ (i = 0 ∨ i = 26)) → ¬ (c = 400 ∧ i = 1) → ai_hv t154 c i = ai_hv t0 c i := fun c i h8 h9 h10 => (e154 c i (by first | decide | omega)).trans ((e150 c i (by first | decide | omega)).trans ((e147 c i (by first | decide | omega)).trans (e121 c i (by first | decide | omega))))
              have hfr : (∀ c i, ¬ ((c = 399 ∧ i < 225) ∨ (c = 383 ∧ (i = 0 ∨ i = 26)) ∨ c = 400) → ai_hv t154 c i = ai_hv t0 c i) := fun c i h => by
                by_cases c9 : c = 399
                · subst c9; rw [h399, if_neg (by first | decide | omega)]
                · exact hot c i c9 (by first | decide | omega) (by first | decide | omega)
              refine ⟨_, rfl, 1, t154, rfl, g154, hfr, (fun z => absurd ⟨by decide, Or.inl (by first | decide | omega)⟩ z), (fun _ => ⟨rfl, (fun j hj => ?_), ?_, ⟨k154, fun k hk j hj => ?_⟩, fun m9 hm9 => ?_⟩), fun z => by omega⟩
              · rw [h399, if_neg (by first | decide | omega)]; exact h1 j hj
              · rw [h399, if_neg (by decide)]; exact h2
              · rw [h399, if_neg (by first | decide | omega)]; exact h4 k hk j hj
              · by_cases e9 : m9 = 1
                · subst e9
                  rw [up1_t, up1_t, up1_t]
                  exact ⟨k55, fun _ => ⟨fun j hj => by
                    rw [h399, if_pos (by first | decide | omega), show 45 * (1 + 1) + j - 90 + 0 = 0 + j by omega]; exact h1 j hj, by
                    rw [h399, if_pos (by decide)]; exact h2⟩⟩
                · rw [up1_f e9, up1_f e9, up1_f e9]
                  exact ⟨(hot _ _ (by decide) (by first | decide | omega) (by first | decide | omega)).trans (h7 m9 hm9).1, fun z => ⟨fun j hj => by
                    rw [h399, if_neg (by first | decide | omega)]; exact ((h7 m9 hm9).2 z).1 j hj, by
                    rw [h399, if_neg (by first | decide | omega)]; exact ((h7 m9 hm9).2 z).2⟩⟩
            · refine gx_1f (c := .eq) rfl (by first | decide | omega) hc52 rfl ?_
              refine ex_go (S := (76, [(0, gx_r 383), (1, .inl 1), (2, .inl b)], [.inl 0, gx_r 383], t150, n, 0)) rfl (fun _ => rfl) rfl ?_
              refine ex_go (S := (83, [(0, gx_r 383), (1, .inl 1), (2, .inl b)], [.inl 0, gx_r 383], t150, n, 0)) rfl (fun _ => rfl) rfl ?_
              refine gx_put rfl g150 rfl rfl (ai_in_h (by first | decide | omega) (by first | decide | omega) (by first | decide | omega)) rfl (fun t156 g156 k156 e156 => ?_)
              have k57 : ai_hv t156 400 1 = some (.inl 1) := (e156 400 1 (by first | decide | omega)).trans k51
              refine ex_go (S := (87, [(0, gx_r 383), (1, .inl 1), (2, .inl b)], [.inl 1], t156, n, 0)) rfl (fun _ => rfl) rfl ?_
              refine ex_ret (r := (some (.inl 1), t156, n, 0)) rfl (fun _ => rfl) ?_
              omega
          · refine gx_1f (c := .eq) rfl (by first | decide | omega) hc49 rfl ?_
            refine ex_go (S := (56, [(0, gx_r 383), (1, .inl 1), (2, .inl b)], [.inl 0, .inl 0, gx_r 383], t147, n, 0)) rfl (fun _ => rfl) rfl ?_
            refine ex_go (S := (65, [(0, gx_r 383), (1, .inl 1), (2, .inl b)], [.inl 0, .inl 0, gx_r 383], t147, n, 0)) rfl (fun _ => rfl) rfl ?_
            refine ex_go (S := (67, [(0, gx_r 383), (1, .inl 1), (2, .inl b)], [.inl 45, .inl 0, .inl 0, gx_r 383], t147, n, 0)) rfl (fun _ => rfl) rfl ?_
            omega
        · refine gx_1f (c := .eq) rfl (by first | decide | omega) hc48 rfl ?_
          refine ex_go (S := (43, [(0, gx_r 383), (1, .inl 1), (2, .inl b)], [.inl 45, gx_r 383], t147, n, 0)) rfl (fun _ => rfl) rfl ?_
          refine ex_go (S := (44, [(0, gx_r 383), (1, .inl 1), (2, .inl b)], [.inl 1, .inl 45, gx_r 383], t147, n, 0)) rfl (fun _ => rfl) rfl ?_
          refine ex_go (S := (45, [(0, gx_r 383), (1, .inl 1), (2, .inl b)], [.inl 1, .inl 1, .inl 45, gx_r 383], t147, n, 0)) rfl (fun _ => rfl) rfl ?_
          refine ex_go (S := (46, [(0, gx_r 383), (1, .inl 1), (2, .inl b)], [.inl 2, .inl 45, gx_r 383], t147, n, 0)) rfl (fun _ => rfl) rfl ?_
          refine ex_go (S := (47, [(0, gx_r 383), (1, .inl 1), (2, .inl b)], [.inl 90, gx_r 383], t147, n, 0)) rfl (fun _ => rfl) rfl ?_
          refine ex_go (S := (51, [(0, gx_r 383), (1, .inl 1), (2, .inl b)], [.inl 90, gx_r 383], t147, n, 0)) rfl (fun _ => rfl) rfl ?_
          refine ex_go (S := (52, [(0, gx_r 383), (1, .inl 1), (2, .inl b)], [.inl b, .inl 90, gx_r 383], t147, n, 0)) rfl (fun _ => rfl) rfl ?_
          by_cases hc58 : b = 0
          · refine gx_1t (c := .eq) rfl (by first | decide | omega) hc58 rfl ?_
            refine ex_go (S := (61, [(0, gx_r 383), (1, .inl 1), (2, .inl b)], [.inl 45, .inl 90, gx_r 383], t147, n, 0)) rfl (fun _ => rfl) rfl ?_
            refine ex_go (S := (62, [(0, gx_r 383), (1, .inl 1), (2, .inl b)], [.inl 1, .inl 45, .inl 90, gx_r 383], t147, n, 0)) rfl (fun _ => rfl) rfl ?_
            refine ex_go (S := (63, [(0, gx_r 383), (1, .inl 1), (2, .inl b)], [.inl 1, .inl 1, .inl 45, .inl 90, gx_r 383], t147, n, 0)) rfl (fun _ => rfl) rfl ?_
            refine ex_go (S := (64, [(0, gx_r 383), (1, .inl 1), (2, .inl b)], [.inl 2, .inl 45, .inl 90, gx_r 383], t147, n, 0)) rfl (fun _ => rfl) rfl ?_
            refine ex_go (S := (65, [(0, gx_r 383), (1, .inl 1), (2, .inl b)], [.inl 90, .inl 90, gx_r 383], t147, n, 0)) rfl (fun _ => rfl) rfl ?_
            refine ex_go (S := (67, [(0, gx_r 383), (1, .inl 1), (2, .inl b)], [.inl 45, .inl 90, .inl 90, gx_r 383], t147, n, 0)) rfl (fun _ => rfl) rfl ?_
            omega
          · refine gx_1f (c := .eq) rfl (by first | decide | omega) hc58 rfl ?_
            refine ex_go (S := (56, [(0, gx_r 383), (1, .inl 1), (2, .inl b)], [.inl 0, .inl 90, gx_r 383], t147, n, 0)) rfl (fun _ => rfl) rfl ?_
            refine ex_go (S := (65, [(0, gx_r 383), (1, .inl 1), (2, .inl b)], [.inl 0, .inl 90, gx_r 383], t147, n, 0)) rfl (fun _ => rfl) rfl ?_
            refine ex_go (S := (67, [(0, gx_r 383), (1, .inl 1), (2, .inl b)], [.inl 45, .inl 0, .inl 90, gx_r 383], t147, n, 0)) rfl (fun _ => rfl) rfl ?_
            obtain ⟨_, r159, t159, rfl, g159, e159, y159⟩ := pe_copies d n (f := 90) (t := 0) (m := 45) g147 (by decide +kernel) (by decide) (by decide) (by decide) (by decide)
            refine gx_call0 rfl rfl g147 rfl rfl r159 rfl ?_
            have k60 : ai_hv t159 400 1 = some (.inl 1) := (e159 400 1 (by first | decide | omega)).trans k147
            show en_ex _ _ _ _ (70, [(0, gx_r 383), (1, .inl 1), (2, .inl b)], [], t159, n, 0) _
            refine ex_go (S := (71, [(0, gx_r 383), (1, .inl 1), (2, .inl b)], [gx_r 383], t159, n, 0)) rfl (fun _ => rfl) rfl ?_
            refine ex_go (S := (72, [(0, gx_r 383), (1, .inl 1), (2, .inl b)], [.inl b, gx_r 383], t159, n, 0)) rfl (fun _ => rfl) rfl ?_
            by_cases hc61 : b = 0
            · refine gx_1t (c := .eq) rfl (by first | decide | omega) hc61 rfl ?_
              refine ex_go (S := (80, [(0, gx_r 383), (1, .inl 1), (2, .inl b)], [gx_r 383, gx_r 383], t159, n, 0)) rfl (fun _ => rfl) rfl ?_
              have k62 := (e159 383 26 (by first | decide | omega)).trans ((e147 383 26 (by first | decide | omega)).trans ((e121 383 26 (by first | decide | omega)).trans (h3)))
              refine gx_get rfl g159 rfl k62 rfl ?_
              refine gx_put rfl g159 rfl rfl (ai_in_h (by first | decide | omega) (by first | decide | omega) (by first | decide | omega)) rfl (fun t163 g163 k163 e163 => ?_)
              have k64 : ai_hv t163 400 1 = some (.inl 1) := (e163 400 1 (by first | decide | omega)).trans k60
              refine ex_go (S := (87, [(0, gx_r 383), (1, .inl 1), (2, .inl b)], [.inl 1], t163, n, 0)) rfl (fun _ => rfl) rfl ?_
              refine ex_ret (r := (some (.inl 1), t163, n, 0)) rfl (fun _ => rfl) ?_
              omega
            · refine gx_1f (c := .eq) rfl (by first | decide | omega) hc61 rfl ?_
              refine ex_go (S := (76, [(0, gx_r 383), (1, .inl 1), (2, .inl b)], [.inl 0, gx_r 383], t159, n, 0)) rfl (fun _ => rfl) rfl ?_
              refine ex_go (S := (83, [(0, gx_r 383), (1, .inl 1), (2, .inl b)], [.inl 0, gx_r 383], t159, n, 0)) rfl (fun _ => rfl) rfl ?_
              refine gx_put rfl g159 rfl rfl (ai_in_h (by first | decide | omega) (by first | decide | omega) (by first | decide | omega)) rfl (fun t165 g165 k165 e165 => ?_)
              have k66 : ai_hv t165 400 1 = some (.inl 1) := (e165 400 1 (by first | decide | omega)).trans k60
              refine ex_go (S := (87, [(0, gx_r 383), (1, .inl 1), (2, .inl b)], [.inl 1], t165, n, 0)) rfl (fun _ => rfl) rfl ?_
              refine ex_ret (r := (some (.inl 1), t165, n, 0)) rfl (fun _ => rfl) ?_
              have h399 : ∀ i, ai_hv t165 399 i = if 0 ≤ i ∧ i < 0 + 45 then ai_hv t0 399 (i - 0 + 90) else ai_hv t0 399 i := fun i => by
                refine (e165 399 i (by first | decide | omega)).trans ?_
                rw [y159]
                by_cases c9 : 0 ≤ i ∧ i < 0 + 45
                · rw [if_pos c9, if_pos c9]; exact (e147 399 _ (by first | decide | omega)).trans (e121 399 _ (by first | decide | omega))
                · rw [if_neg c9, if_neg c9]; exact (e147 399 i (by first | decide | omega)).trans (e121 399 i (by first | decide | omega))
              have hot : ∀ c i, c ≠ 399 → ¬ (c = 383 ∧ (i = 0 ∨ i = 26)) → ¬ (c = 400 ∧ i = 1) → ai_hv t165 c i = ai_hv t0 c i := fun c i h8 h9 h10 => (e165 c i (by first | decide | omega)).trans ((e159 c i (by first | decide | omega)).trans ((e147 c i (by first | decide | omega)).trans (e121 c i (by first | decide | omega))))
              have hfr : (∀ c i, ¬ ((c = 399 ∧ i < 225) ∨ (c = 383 ∧ (i = 0 ∨ i = 26)) ∨ c = 400) → ai_hv t165 c i = ai_hv t0 c i) := fun c i h => by
                by_cases c9 : c = 399
                · subst c9; rw [h399, if_neg (by first | decide | omega)]
                · exact hot c i c9 (by first | decide | omega) (by first | decide | omega)
              have hy9 := (h7 1 (by decide)).2 (by first | decide | omega)
              refine ⟨_, rfl, 1, t165, rfl, g165, hfr, (fun z => absurd ⟨by decide, Or.inr (by first | decide | omega)⟩ z), (fun z => by omega), fun _ => ⟨rfl, (fun j hj => ?_), ?_, ⟨k165, fun k hk => absurd hk (Nat.not_lt_zero k)⟩, fun m9 hm9 => ?_⟩⟩
              · rw [h399, if_pos (by first | decide | omega), show 0 + j - 0 + 90 = 45 * (1 + 1) + j by omega]; exact hy9.1 j hj
              · rw [h399, if_pos (by decide)]; exact hy9.2
              · refine ⟨?_, fun z => ⟨fun j hj => by
                  rw [h399, if_neg (by first | decide | omega)]; exact ((h7 m9 hm9).2 z).1 j hj, by
                  rw [h399, if_neg (by first | decide | omega)]; exact ((h7 m9 hm9).2 z).2⟩⟩
                by_cases e9 : m9 = 1
                · subst e9
                  rw [show F 1 = 1 by omega]; exact k66
                · exact (hot _ _ (by decide) (by first | decide | omega) (by first | decide | omega)).trans (h7 m9 hm9).1
      · refine ex_go (S := (30, [(0, gx_r 383), (1, .inl 2), (2, .inl b)], [gx_r 383], t121, n, 0)) rfl (fun _ => rfl) rfl ?_
        refine gx_ref (c := 400) rfl g121 rfl rfl rfl rfl ?_
        refine ex_go (S := (34, [(0, gx_r 383), (1, .inl 2), (2, .inl b)], [.inl 2, gx_r 400], t121, n, 0)) rfl (fun _ => rfl) rfl ?_
        refine ex_go (S := (35, [(0, gx_r 383), (1, .inl 2), (2, .inl b)], [.inl 1, .inl 2, gx_r 400], t121, n, 0)) rfl (fun _ => rfl) rfl ?_
        refine gx_apv (d := 2) rfl (fun _ => rfl) g121 rfl rfl rfl (show 2 < 4 from by omega) rfl (ai_in_h (by first | decide | omega) (by first | decide | omega) (by first | decide | omega)) rfl (fun t167 g167 k167 e167 => ?_)
        refine ex_go (S := (37, [(0, gx_r 383), (1, .inl 2), (2, .inl b)], [gx_r 383], t167, n, 0)) rfl (fun _ => rfl) rfl ?_
        refine ex_go (S := (38, [(0, gx_r 383), (1, .inl 2), (2, .inl b)], [.inl b, gx_r 383], t167, n, 0)) rfl (fun _ => rfl) rfl ?_
        by_cases hc68 : b = 0
        · refine gx_1t (c := .eq) rfl (by first | decide | omega) hc68 rfl ?_
          refine ex_go (S := (51, [(0, gx_r 383), (1, .inl 2), (2, .inl b)], [.inl 0, gx_r 383], t167, n, 0)) rfl (fun _ => rfl) rfl ?_
          refine ex_go (S := (52, [(0, gx_r 383), (1, .inl 2), (2, .inl b)], [.inl b, .inl 0, gx_r 383], t167, n, 0)) rfl (fun _ => rfl) rfl ?_
          by_cases hc69 : b = 0
          · refine gx_1t (c := .eq) rfl (by first | decide | omega) hc69 rfl ?_
            refine ex_go (S := (61, [(0, gx_r 383), (1, .inl 2), (2, .inl b)], [.inl 45, .inl 0, gx_r 383], t167, n, 0)) rfl (fun _ => rfl) rfl ?_
            refine ex_go (S := (62, [(0, gx_r 383), (1, .inl 2), (2, .inl b)], [.inl 1, .inl 45, .inl 0, gx_r 383], t167, n, 0)) rfl (fun _ => rfl) rfl ?_
            refine ex_go (S := (63, [(0, gx_r 383), (1, .inl 2), (2, .inl b)], [.inl 2, .inl 1, .inl 45, .inl 0, gx_r 383], t167, n, 0)) rfl (fun _ => rfl) rfl ?_
            refine ex_go (S := (64, [(0, gx_r 383), (1, .inl 2), (2, .inl b)], [.inl 3, .inl 45, .inl 0, gx_r 383], t167, n, 0)) rfl (fun _ => rfl) rfl ?_
            refine ex_go (S := (65, [(0, gx_r 383), (1, .inl 2), (2, .inl b)], [.inl 135, .inl 0, gx_r 383], t167, n, 0)) rfl (fun _ => rfl) rfl ?_
            refine ex_go (S := (67, [(0, gx_r 383), (1, .inl 2), (2, .inl b)], [.inl 45, .inl 135, .inl 0, gx_r 383], t167, n, 0)) rfl (fun _ => rfl) rfl ?_
            obtain ⟨_, r170, t170, rfl, g170, e170, y170⟩ := pe_copies d n (f := 0) (t := 135) (m := 45) g167 (by decide +kernel) (by decide) (by decide) (by decide) (by decide)
            refine gx_call0 rfl rfl g167 rfl rfl r170 rfl ?_
            have k71 : ai_hv t170 400 2 = some (.inl 1) := (e170 400 2 (by first | decide | omega)).trans k167
            show en_ex _ _ _ _ (70, [(0, gx_r 383), (1, .inl 2), (2, .inl b)], [], t170, n, 0) _
            refine ex_go (S := (71, [(0, gx_r 383), (1, .inl 2), (2, .inl b)], [gx_r 383], t170, n, 0)) rfl (fun _ => rfl) rfl ?_
            refine ex_go (S := (72, [(0, gx_r 383), (1, .inl 2), (2, .inl b)], [.inl b, gx_r 383], t170, n, 0)) rfl (fun _ => rfl) rfl ?_
            by_cases hc72 : b = 0
            · refine gx_1t (c := .eq) rfl (by first | decide | omega) hc72 rfl ?_
              refine ex_go (S := (80, [(0, gx_r 383), (1, .inl 2), (2, .inl b)], [gx_r 383, gx_r 383], t170, n, 0)) rfl (fun _ => rfl) rfl ?_
              have k73 := (e170 383 26 (by first | decide | omega)).trans ((e167 383 26 (by first | decide | omega)).trans ((e121 383 26 (by first | decide | omega)).trans (h3)))
              refine gx_get rfl g170 rfl k73 rfl ?_
              refine gx_put rfl g170 rfl rfl (ai_in_h (by first | decide | omega) (by first | decide | omega) (by first | decide | omega)) rfl (fun t174 g174 k174 e174 => ?_)
              have k75 : ai_hv t174 400 2 = some (.inl 1) := (e174 400 2 (by first | decide | omega)).trans k71
              refine ex_go (S := (87, [(0, gx_r 383), (1, .inl 2), (2, .inl b)], [.inl 1], t174, n, 0)) rfl (fun _ => rfl) rfl ?_
              refine ex_ret (r := (some (.inl 1), t174, n, 0)) rfl (fun _ => rfl) ?_
              have h399 : ∀ i, ai_hv t174 399 i = if 135 ≤ i ∧ i < 135 + 45 then ai_hv t0 399 (i - 135 + 0) else ai_hv t0 399 i := fun i => by
                refine (e174 399 i (by first | decide | omega)).trans ?_
                rw [y170]
                by_cases c9 : 135 ≤ i ∧ i < 135 + 45
                · rw [if_pos c9, if_pos c9]; exact (e167 399 _ (by first | decide | omega)).trans (e121 399 _ (by first | decide | omega))
                · rw [if_neg c9, if_neg c9]; exact (e167 399 i (by first | decide | omega)).trans (e121 399 i (by first | decide | omega))
              have hot : ∀ c i, c ≠ 399 → ¬ (c = 383 ∧ (i = 0 ∨ i = 26)) → ¬ (c = 400 ∧ i = 2) → ai_hv t174 c i = ai_hv t0 c i := fun c i h8 h9 h10 => (e174 c i (by first | decide | omega)).trans ((e170 c i (by first | decide | omega)).trans ((e167 c i (by first | decide | omega)).trans (e121 c i (by first | decide | omega))))
              have hfr : (∀ c i, ¬ ((c = 399 ∧ i < 225) ∨ (c = 383 ∧ (i = 0 ∨ i = 26)) ∨ c = 400) → ai_hv t174 c i = ai_hv t0 c i) := fun c i h => by
                by_cases c9 : c = 399
                · subst c9; rw [h399, if_neg (by first | decide | omega)]
                · exact hot c i c9 (by first | decide | omega) (by first | decide | omega)
              refine ⟨_, rfl, 1, t174, rfl, g174, hfr, (fun z => absurd ⟨by decide, Or.inl (by first | decide | omega)⟩ z), (fun _ => ⟨rfl, (fun j hj => ?_), ?_, ⟨k174, fun k hk j hj => ?_⟩, fun m9 hm9 => ?_⟩), fun z => by omega⟩
              · rw [h399, if_neg (by first | decide | omega)]; exact h1 j hj
              · rw [h399, if_neg (by decide)]; exact h2
              · rw [h399, if_neg (by first | decide | omega)]; exact h4 k hk j hj
              · by_cases e9 : m9 = 2
                · subst e9
                  rw [up1_t, up1_t, up1_t]
                  exact ⟨k75, fun _ => ⟨fun j hj => by
                    rw [h399, if_pos (by first | decide | omega), show 45 * (1 + 2) + j - 135 + 0 = 0 + j by omega]; exact h1 j hj, by
                    rw [h399, if_pos (by decide)]; exact h2⟩⟩
                · rw [up1_f e9, up1_f e9, up1_f e9]
                  exact ⟨(hot _ _ (by decide) (by first | decide | omega) (by first | decide | omega)).trans (h7 m9 hm9).1, fun z => ⟨fun j hj => by
                    rw [h399, if_neg (by first | decide | omega)]; exact ((h7 m9 hm9).2 z).1 j hj, by
                    rw [h399, if_neg (by first | decide | omega)]; exact ((h7 m9 hm9).2 z).2⟩⟩
            · refine gx_1f (c := .eq) rfl (by first | decide | omega) hc72 rfl ?_
              refine ex_go (S := (76, [(0, gx_r 383), (1, .inl 2), (2, .inl b)], [.inl 0, gx_r 383], t170, n, 0)) rfl (fun _ => rfl) rfl ?_
              refine ex_go (S := (83, [(0, gx_r 383), (1, .inl 2), (2, .inl b)], [.inl 0, gx_r 383], t170, n, 0)) rfl (fun _ => rfl) rfl ?_
              refine gx_put rfl g170 rfl rfl (ai_in_h (by first | decide | omega) (by first | decide | omega) (by first | decide | omega)) rfl (fun t176 g176 k176 e176 => ?_)
              have k77 : ai_hv t176 400 2 = some (.inl 1) := (e176 400 2 (by first | decide | omega)).trans k71
              refine ex_go (S := (87, [(0, gx_r 383), (1, .inl 2), (2, .inl b)], [.inl 1], t176, n, 0)) rfl (fun _ => rfl) rfl ?_
              refine ex_ret (r := (some (.inl 1), t176, n, 0)) rfl (fun _ => rfl) ?_
              omega
          · refine gx_1f (c := .eq) rfl (by first | decide | omega) hc69 rfl ?_
            refine ex_go (S := (56, [(0, gx_r 383), (1, .inl 2), (2, .inl b)], [.inl 0, .inl 0, gx_r 383], t167, n, 0)) rfl (fun _ => rfl) rfl ?_
            refine ex_go (S := (65, [(0, gx_r 383), (1, .inl 2), (2, .inl b)], [.inl 0, .inl 0, gx_r 383], t167, n, 0)) rfl (fun _ => rfl) rfl ?_
            refine ex_go (S := (67, [(0, gx_r 383), (1, .inl 2), (2, .inl b)], [.inl 45, .inl 0, .inl 0, gx_r 383], t167, n, 0)) rfl (fun _ => rfl) rfl ?_
            omega
        · refine gx_1f (c := .eq) rfl (by first | decide | omega) hc68 rfl ?_
          refine ex_go (S := (43, [(0, gx_r 383), (1, .inl 2), (2, .inl b)], [.inl 45, gx_r 383], t167, n, 0)) rfl (fun _ => rfl) rfl ?_
          refine ex_go (S := (44, [(0, gx_r 383), (1, .inl 2), (2, .inl b)], [.inl 1, .inl 45, gx_r 383], t167, n, 0)) rfl (fun _ => rfl) rfl ?_
          refine ex_go (S := (45, [(0, gx_r 383), (1, .inl 2), (2, .inl b)], [.inl 2, .inl 1, .inl 45, gx_r 383], t167, n, 0)) rfl (fun _ => rfl) rfl ?_
          refine ex_go (S := (46, [(0, gx_r 383), (1, .inl 2), (2, .inl b)], [.inl 3, .inl 45, gx_r 383], t167, n, 0)) rfl (fun _ => rfl) rfl ?_
          refine ex_go (S := (47, [(0, gx_r 383), (1, .inl 2), (2, .inl b)], [.inl 135, gx_r 383], t167, n, 0)) rfl (fun _ => rfl) rfl ?_
          refine ex_go (S := (51, [(0, gx_r 383), (1, .inl 2), (2, .inl b)], [.inl 135, gx_r 383], t167, n, 0)) rfl (fun _ => rfl) rfl ?_
          refine ex_go (S := (52, [(0, gx_r 383), (1, .inl 2), (2, .inl b)], [.inl b, .inl 135, gx_r 383], t167, n, 0)) rfl (fun _ => rfl) rfl ?_
          by_cases hc78 : b = 0
          · refine gx_1t (c := .eq) rfl (by first | decide | omega) hc78 rfl ?_
            refine ex_go (S := (61, [(0, gx_r 383), (1, .inl 2), (2, .inl b)], [.inl 45, .inl 135, gx_r 383], t167, n, 0)) rfl (fun _ => rfl) rfl ?_
            refine ex_go (S := (62, [(0, gx_r 383), (1, .inl 2), (2, .inl b)], [.inl 1, .inl 45, .inl 135, gx_r 383], t167, n, 0)) rfl (fun _ => rfl) rfl ?_
            refine ex_go (S := (63, [(0, gx_r 383), (1, .inl 2), (2, .inl b)], [.inl 2, .inl 1, .inl 45, .inl 135, gx_r 383], t167, n, 0)) rfl (fun _ => rfl) rfl ?_
            refine ex_go (S := (64, [(0, gx_r 383), (1, .inl 2), (2, .inl b)], [.inl 3, .inl 45, .inl 135, gx_r 383], t167, n, 0)) rfl (fun _ => rfl) rfl ?_
            refine ex_go (S := (65, [(0, gx_r 383), (1, .inl 2), (2, .inl b)], [.inl 135, .inl 135, gx_r 383], t167, n, 0)) rfl (fun _ => rfl) rfl ?_
            refine ex_go (S := (67, [(0, gx_r 383), (1, .inl 2), (2, .inl b)], [.inl 45, .inl 135, .inl 135, gx_r 383], t167, n, 0)) rfl (fun _ => rfl) rfl ?_
            omega
          · refine gx_1f (c := .eq) rfl (by first | decide | omega) hc78 rfl ?_
            refine ex_go (S := (56, [(0, gx_r 383), (1, .inl 2), (2, .inl b)], [.inl 0, .inl 135, gx_r 383], t167, n, 0)) rfl (fun _ => rfl) rfl ?_
            refine ex_go (S := (65, [(0, gx_r 383), (1, .inl 2), (2, .inl b)], [.inl 0, .inl 135, gx_r 383], t167, n, 0)) rfl (fun _ => rfl) rfl ?_
            refine ex_go (S := (67, [(0, gx_r 383), (1, .inl 2), (2, .inl b)], [.inl 45, .inl 0, .inl 135, gx_r 383], t167, n, 0)) rfl (fun _ => rfl) rfl ?_
            obtain ⟨_, r179, t179, rfl, g179, e179, y179⟩ := pe_copies d n (f := 135) (t := 0) (m := 45) g167 (by decide +kernel) (by decide) (by decide) (by decide) (by decide)
            refine gx_call0 rfl rfl g167 rfl rfl r179 rfl ?_
            have k80 : ai_hv t179 400 2 = some (.inl 1) := (e179 400 2 (by first | decide | omega)).trans k167
            show en_ex _ _ _ _ (70, [(0, gx_r 383), (1, .inl 2), (2, .inl b)], [], t179, n, 0) _
            refine ex_go (S := (71, [(0, gx_r 383), (1, .inl 2), (2, .inl b)], [gx_r 383], t179, n, 0)) rfl (fun _ => rfl) rfl ?_
            refine ex_go (S := (72, [(0, gx_r 383), (1, .inl 2), (2, .inl b)], [.inl b, gx_r 383], t179, n, 0)) rfl (fun _ => rfl) rfl ?_
            by_cases hc81 : b = 0
            · refine gx_1t (c := .eq) rfl (by first | decide | omega) hc81 rfl ?_
              refine ex_go (S := (80, [(0, gx_r 383), (1, .inl 2), (2, .inl b)], [gx_r 383, gx_r 383], t179, n, 0)) rfl (fun _ => rfl) rfl ?_
              have k82 := (e179 383 26 (by first | decide | omega)).trans ((e167 383 26 (by first | decide | omega)).trans ((e121 383 26 (by first | decide | omega)).trans (h3)))
              refine gx_get rfl g179 rfl k82 rfl ?_
              refine gx_put rfl g179 rfl rfl (ai_in_h (by first | decide | omega) (by first | decide | omega) (by first | decide | omega)) rfl (fun t183 g183 k183 e183 => ?_)
              have k84 : ai_hv t183 400 2 = some (.inl 1) := (e183 400 2 (by first | decide | omega)).trans k80
              refine ex_go (S := (87, [(0, gx_r 383), (1, .inl 2), (2, .inl b)], [.inl 1], t183, n, 0)) rfl (fun _ => rfl) rfl ?_
              refine ex_ret (r := (some (.inl 1), t183, n, 0)) rfl (fun _ => rfl) ?_
              omega
            · refine gx_1f (c := .eq) rfl (by first | decide | omega) hc81 rfl ?_
              refine ex_go (S := (76, [(0, gx_r 383), (1, .inl 2), (2, .inl b)], [.inl 0, gx_r 383], t179, n, 0)) rfl (fun _ => rfl) rfl ?_
              refine ex_go (S := (83, [(0, gx_r 383), (1, .inl 2), (2, .inl b)], [.inl 0, gx_r 383], t179, n, 0)) rfl (fun _ => rfl) rfl ?_
              refine gx_put rfl g179 rfl rfl (ai_in_h (by first | decide | omega) (by first | decide | omega) (by first | decide | omega)) rfl (fun t185 g185 k185 e185 => ?_)
              have k86 : ai_hv t185 400 2 = some (.inl 1) := (e185 400 2 (by first | decide | omega)).trans k80
              refine ex_go (S := (87, [(0, gx_r 383), (1, .inl 2), (2, .inl b)], [.inl 1], t185, n, 0)) rfl (fun _ => rfl) rfl ?_
              refine ex_ret (r := (some (.inl 1), t185, n, 0)) rfl (fun _ => rfl) ?_
              have h399 : ∀ i, ai_hv t185 399 i = if 0 ≤ i ∧ i < 0 + 45 then ai_hv t0 399 (i - 0 + 135) else ai_hv t0 399 i := fun i => by
                refine (e185 399 i (by first | decide | omega)).trans ?_
                rw [y179]
                by_cases c9 : 0 ≤ i ∧ i < 0 + 45
                · rw [if_pos c9, if_pos c9]; exact (e167 399 _ (by first | decide | omega)).trans (e121 399 _ (by first | decide | omega))
                · rw [if_neg c9, if_neg c9]; exact (e167 399 i (by first | decide | omega)).trans (e121 399 i (by first | decide | omega))
              have hot : ∀ c i, c ≠ 399 → ¬ (c = 383 ∧ (i = 0 ∨ i = 26)) → ¬ (c = 400 ∧ i = 2) → ai_hv t185 c i = ai_hv t0 c i := fun c i h8 h9 h10 => (e185 c i (by first | decide | omega)).trans ((e179 c i (by first | decide | omega)).trans ((e167 c i (by first | decide | omega)).trans (e121 c i (by first | decide | omega))))
              have hfr : (∀ c i, ¬ ((c = 399 ∧ i < 225) ∨ (c = 383 ∧ (i = 0 ∨ i = 26)) ∨ c = 400) → ai_hv t185 c i = ai_hv t0 c i) := fun c i h => by
                by_cases c9 : c = 399
                · subst c9; rw [h399, if_neg (by first | decide | omega)]
                · exact hot c i c9 (by first | decide | omega) (by first | decide | omega)
              have hy9 := (h7 2 (by decide)).2 (by first | decide | omega)
              refine ⟨_, rfl, 1, t185, rfl, g185, hfr, (fun z => absurd ⟨by decide, Or.inr (by first | decide | omega)⟩ z), (fun z => by omega), fun _ => ⟨rfl, (fun j hj => ?_), ?_, ⟨k185, fun k hk => absurd hk (Nat.not_lt_zero k)⟩, fun m9 hm9 => ?_⟩⟩
              · rw [h399, if_pos (by first | decide | omega), show 0 + j - 0 + 135 = 45 * (1 + 2) + j by omega]; exact hy9.1 j hj
              · rw [h399, if_pos (by decide)]; exact hy9.2
              · refine ⟨?_, fun z => ⟨fun j hj => by
                  rw [h399, if_neg (by first | decide | omega)]; exact ((h7 m9 hm9).2 z).1 j hj, by
                  rw [h399, if_neg (by first | decide | omega)]; exact ((h7 m9 hm9).2 z).2⟩⟩
                by_cases e9 : m9 = 2
                · subst e9
                  rw [show F 2 = 1 by omega]; exact k86
                · exact (hot _ _ (by decide) (by first | decide | omega) (by first | decide | omega)).trans (h7 m9 hm9).1
      · refine ex_go (S := (30, [(0, gx_r 383), (1, .inl 3), (2, .inl b)], [gx_r 383], t121, n, 0)) rfl (fun _ => rfl) rfl ?_
        refine gx_ref (c := 400) rfl g121 rfl rfl rfl rfl ?_
        refine ex_go (S := (34, [(0, gx_r 383), (1, .inl 3), (2, .inl b)], [.inl 3, gx_r 400], t121, n, 0)) rfl (fun _ => rfl) rfl ?_
        refine ex_go (S := (35, [(0, gx_r 383), (1, .inl 3), (2, .inl b)], [.inl 1, .inl 3, gx_r 400], t121, n, 0)) rfl (fun _ => rfl) rfl ?_
        refine gx_apv (d := 2) rfl (fun _ => rfl) g121 rfl rfl rfl (show 3 < 4 from by omega) rfl (ai_in_h (by first | decide | omega) (by first | decide | omega) (by first | decide | omega)) rfl (fun t187 g187 k187 e187 => ?_)
        refine ex_go (S := (37, [(0, gx_r 383), (1, .inl 3), (2, .inl b)], [gx_r 383], t187, n, 0)) rfl (fun _ => rfl) rfl ?_
        refine ex_go (S := (38, [(0, gx_r 383), (1, .inl 3), (2, .inl b)], [.inl b, gx_r 383], t187, n, 0)) rfl (fun _ => rfl) rfl ?_
        by_cases hc88 : b = 0
        · refine gx_1t (c := .eq) rfl (by first | decide | omega) hc88 rfl ?_
          refine ex_go (S := (51, [(0, gx_r 383), (1, .inl 3), (2, .inl b)], [.inl 0, gx_r 383], t187, n, 0)) rfl (fun _ => rfl) rfl ?_
          refine ex_go (S := (52, [(0, gx_r 383), (1, .inl 3), (2, .inl b)], [.inl b, .inl 0, gx_r 383], t187, n, 0)) rfl (fun _ => rfl) rfl ?_
          by_cases hc89 : b = 0
          · refine gx_1t (c := .eq) rfl (by first | decide | omega) hc89 rfl ?_
            refine ex_go (S := (61, [(0, gx_r 383), (1, .inl 3), (2, .inl b)], [.inl 45, .inl 0, gx_r 383], t187, n, 0)) rfl (fun _ => rfl) rfl ?_
            refine ex_go (S := (62, [(0, gx_r 383), (1, .inl 3), (2, .inl b)], [.inl 1, .inl 45, .inl 0, gx_r 383], t187, n, 0)) rfl (fun _ => rfl) rfl ?_
            refine ex_go (S := (63, [(0, gx_r 383), (1, .inl 3), (2, .inl b)], [.inl 3, .inl 1, .inl 45, .inl 0, gx_r 383], t187, n, 0)) rfl (fun _ => rfl) rfl ?_
            refine ex_go (S := (64, [(0, gx_r 383), (1, .inl 3), (2, .inl b)], [.inl 4, .inl 45, .inl 0, gx_r 383], t187, n, 0)) rfl (fun _ => rfl) rfl ?_
            refine ex_go (S := (65, [(0, gx_r 383), (1, .inl 3), (2, .inl b)], [.inl 180, .inl 0, gx_r 383], t187, n, 0)) rfl (fun _ => rfl) rfl ?_
            refine ex_go (S := (67, [(0, gx_r 383), (1, .inl 3), (2, .inl b)], [.inl 45, .inl 180, .inl 0, gx_r 383], t187, n, 0)) rfl (fun _ => rfl) rfl ?_
            obtain ⟨_, r190, t190, rfl, g190, e190, y190⟩ := pe_copies d n (f := 0) (t := 180) (m := 45) g187 (by decide +kernel) (by decide) (by decide) (by decide) (by decide)
            refine gx_call0 rfl rfl g187 rfl rfl r190 rfl ?_
            have k91 : ai_hv t190 400 3 = some (.inl 1) := (e190 400 3 (by first | decide | omega)).trans k187
            show en_ex _ _ _ _ (70, [(0, gx_r 383), (1, .inl 3), (2, .inl b)], [], t190, n, 0) _
            refine ex_go (S := (71, [(0, gx_r 383), (1, .inl 3), (2, .inl b)], [gx_r 383], t190, n, 0)) rfl (fun _ => rfl) rfl ?_
            refine ex_go (S := (72, [(0, gx_r 383), (1, .inl 3), (2, .inl b)], [.inl b, gx_r 383], t190, n, 0)) rfl (fun _ => rfl) rfl ?_
            by_cases hc92 : b = 0
            · refine gx_1t (c := .eq) rfl (by first | decide | omega) hc92 rfl ?_
              refine ex_go (S := (80, [(0, gx_r 383), (1, .inl 3), (2, .inl b)], [gx_r 383, gx_r 383], t190, n, 0)) rfl (fun _ => rfl) rfl ?_
              have k93 := (e190 383 26 (by first | decide | omega)).trans ((e187 383 26 (by first | decide | omega)).trans ((e121 383 26 (by first | decide | omega)).trans (h3)))
              refine gx_get rfl g190 rfl k93 rfl ?_
              refine gx_put rfl g190 rfl rfl (ai_in_h (by first | decide | omega) (by first | decide | omega) (by first | decide | omega)) rfl (fun t194 g194 k194 e194 => ?_)
              have k95 : ai_hv t194 400 3 = some (.inl 1) := (e194 400 3 (by first | decide | omega)).trans k91
              refine ex_go (S := (87, [(0, gx_r 383), (1, .inl 3), (2, .inl b)], [.inl 1], t194, n, 0)) rfl (fun _ => rfl) rfl ?_
              refine ex_ret (r := (some (.inl 1), t194, n, 0)) rfl (fun _ => rfl) ?_
              have h399 : ∀ i, ai_hv t194 399 i = if 180 ≤ i ∧ i < 180 + 45 then ai_hv t0 399 (i - 180 + 0) else ai_hv t0 399 i := fun i => by
                refine (e194 399 i (by first | decide | omega)).trans ?_
                rw [y190]
                by_cases c9 : 180 ≤ i ∧ i < 180 + 45
                · rw [if_pos c9, if_pos c9]; exact (e187 399 _ (by first | decide | omega)).trans (e121 399 _ (by first | decide | omega))
                · rw [if_neg c9, if_neg c9]; exact (e187 399 i (by first | decide | omega)).trans (e121 399 i (by first | decide | omega))
              have hot : ∀ c i, c ≠ 399 → ¬ (c = 383 ∧ (i = 0 ∨ i = 26)) → ¬ (c = 400 ∧ i = 3) → ai_hv t194 c i = ai_hv t0 c i := fun c i h8 h9 h10 => (e194 c i (by first | decide | omega)).trans ((e190 c i (by first | decide | omega)).trans ((e187 c i (by first | decide | omega)).trans (e121 c i (by first | decide | omega))))
              have hfr : (∀ c i, ¬ ((c = 399 ∧ i < 225) ∨ (c = 383 ∧ (i = 0 ∨ i = 26)) ∨ c = 400) → ai_hv t194 c i = ai_hv t0 c i) := fun c i h => by
                by_cases c9 : c = 399
                · subst c9; rw [h399, if_neg (by first | decide | omega)]
                · exact hot c i c9 (by first | decide | omega) (by first | decide | omega)
              refine ⟨_, rfl, 1, t194, rfl, g194, hfr, (fun z => absurd ⟨by decide, Or.inl (by first | decide | omega)⟩ z), (fun _ => ⟨rfl, (fun j hj => ?_), ?_, ⟨k194, fun k hk j hj => ?_⟩, fun m9 hm9 => ?_⟩), fun z => by omega⟩
              · rw [h399, if_neg (by first | decide | omega)]; exact h1 j hj
              · rw [h399, if_neg (by decide)]; exact h2
              · rw [h399, if_neg (by first | decide | omega)]; exact h4 k hk j hj
              · by_cases e9 : m9 = 3
                · subst e9
                  rw [up1_t, up1_t, up1_t]
                  exact ⟨k95, fun _ => ⟨fun j hj => by
                    rw [h399, if_pos (by first | decide | omega), show 45 * (1 + 3) + j - 180 + 0 = 0 + j by omega]; exact h1 j hj, by
                    rw [h399, if_pos (by decide)]; exact h2⟩⟩
                · rw [up1_f e9, up1_f e9, up1_f e9]
                  exact ⟨(hot _ _ (by decide) (by first | decide | omega) (by first | decide | omega)).trans (h7 m9 hm9).1, fun z => ⟨fun j hj => by
                    rw [h399, if_neg (by first | decide | omega)]; exact ((h7 m9 hm9).2 z).1 j hj, by
                    rw [h399, if_neg (by first | decide | omega)]; exact ((h7 m9 hm9).2 z).2⟩⟩
            · refine gx_1f (c := .eq) rfl (by first | decide | omega) hc92 rfl ?_
              refine ex_go (S := (76, [(0, gx_r 383), (1, .inl 3), (2, .inl b)], [.inl 0, gx_r 383], t190, n, 0)) rfl (fun _ => rfl) rfl ?_
              refine ex_go (S := (83, [(0, gx_r 383), (1, .inl 3), (2, .inl b)], [.inl 0, gx_r 383], t190, n, 0)) rfl (fun _ => rfl) rfl ?_
              refine gx_put rfl g190 rfl rfl (ai_in_h (by first | decide | omega) (by first | decide | omega) (by first | decide | omega)) rfl (fun t196 g196 k196 e196 => ?_)
              have k97 : ai_hv t196 400 3 = some (.inl 1) := (e196 400 3 (by first | decide | omega)).trans k91
              refine ex_go (S := (87, [(0, gx_r 383), (1, .inl 3), (2, .inl b)], [.inl 1], t196, n, 0)) rfl (fun _ => rfl) rfl ?_
              refine ex_ret (r := (some (.inl 1), t196, n, 0)) rfl (fun _ => rfl) ?_
              omega
          · refine gx_1f (c := .eq) rfl (by first | decide | omega) hc89 rfl ?_
            refine ex_go (S := (56, [(0, gx_r 383), (1, .inl 3), (2, .inl b)], [.inl 0, .inl 0, gx_r 383], t187, n, 0)) rfl (fun _ => rfl) rfl ?_
            refine ex_go (S := (65, [(0, gx_r 383), (1, .inl 3), (2, .inl b)], [.inl 0, .inl 0, gx_r 383], t187, n, 0)) rfl (fun _ => rfl) rfl ?_
            refine ex_go (S := (67, [(0, gx_r 383), (1, .inl 3), (2, .inl b)], [.inl 45, .inl 0, .inl 0, gx_r 383], t187, n, 0)) rfl (fun _ => rfl) rfl ?_
            omega
        · refine gx_1f (c := .eq) rfl (by first | decide | omega) hc88 rfl ?_
          refine ex_go (S := (43, [(0, gx_r 383), (1, .inl 3), (2, .inl b)], [.inl 45, gx_r 383], t187, n, 0)) rfl (fun _ => rfl) rfl ?_
          refine ex_go (S := (44, [(0, gx_r 383), (1, .inl 3), (2, .inl b)], [.inl 1, .inl 45, gx_r 383], t187, n, 0)) rfl (fun _ => rfl) rfl ?_
          refine ex_go (S := (45, [(0, gx_r 383), (1, .inl 3), (2, .inl b)], [.inl 3, .inl 1, .inl 45, gx_r 383], t187, n, 0)) rfl (fun _ => rfl) rfl ?_
          refine ex_go (S := (46, [(0, gx_r 383), (1, .inl 3), (2, .inl b)], [.inl 4, .inl 45, gx_r 383], t187, n, 0)) rfl (fun _ => rfl) rfl ?_
          refine ex_go (S := (47, [(0, gx_r 383), (1, .inl 3), (2, .inl b)], [.inl 180, gx_r 383], t187, n, 0)) rfl (fun _ => rfl) rfl ?_
          refine ex_go (S := (51, [(0, gx_r 383), (1, .inl 3), (2, .inl b)], [.inl 180, gx_r 383], t187, n, 0)) rfl (fun _ => rfl) rfl ?_
          refine ex_go (S := (52, [(0, gx_r 383), (1, .inl 3), (2, .inl b)], [.inl b, .inl 180, gx_r 383], t187, n, 0)) rfl (fun _ => rfl) rfl ?_
          by_cases hc98 : b = 0
          · refine gx_1t (c := .eq) rfl (by first | decide | omega) hc98 rfl ?_
            refine ex_go (S := (61, [(0, gx_r 383), (1, .inl 3), (2, .inl b)], [.inl 45, .inl 180, gx_r 383], t187, n, 0)) rfl (fun _ => rfl) rfl ?_
            refine ex_go (S := (62, [(0, gx_r 383), (1, .inl 3), (2, .inl b)], [.inl 1, .inl 45, .inl 180, gx_r 383], t187, n, 0)) rfl (fun _ => rfl) rfl ?_
            refine ex_go (S := (63, [(0, gx_r 383), (1, .inl 3), (2, .inl b)], [.inl 3, .inl 1, .inl 45, .inl 180, gx_r 383], t187, n, 0)) rfl (fun _ => rfl) rfl ?_
            refine ex_go (S := (64, [(0, gx_r 383), (1, .inl 3), (2, .inl b)], [.inl 4, .inl 45, .inl 180, gx_r 383], t187, n, 0)) rfl (fun _ => rfl) rfl ?_
            refine ex_go (S := (65, [(0, gx_r 383), (1, .inl 3), (2, .inl b)], [.inl 180, .inl 180, gx_r 383], t187, n, 0)) rfl (fun _ => rfl) rfl ?_
            refine ex_go (S := (67, [(0, gx_r 383), (1, .inl 3), (2, .inl b)], [.inl 45, .inl 180, .inl 180, gx_r 383], t187, n, 0)) rfl (fun _ => rfl) rfl ?_
            omega
          · refine gx_1f (c := .eq) rfl (by first | decide | omega) hc98 rfl ?_
            refine ex_go (S := (56, [(0, gx_r 383), (1, .inl 3), (2, .inl b)], [.inl 0, .inl 180, gx_r 383], t187, n, 0)) rfl (fun _ => rfl) rfl ?_
            refine ex_go (S := (65, [(0, gx_r 383), (1, .inl 3), (2, .inl b)], [.inl 0, .inl 180, gx_r 383], t187, n, 0)) rfl (fun _ => rfl) rfl ?_
            refine ex_go (S := (67, [(0, gx_r 383), (1, .inl 3), (2, .inl b)], [.inl 45, .inl 0, .inl 180, gx_r 383], t187, n, 0)) rfl (fun _ => rfl) rfl ?_
            obtain ⟨_, r199, t199, rfl, g199, e199, y199⟩ := pe_copies d n (f := 180) (t := 0) (m := 45) g187 (by decide +kernel) (by decide) (by decide) (by decide) (by decide)
            refine gx_call0 rfl rfl g187 rfl rfl r199 rfl ?_
            have k100 : ai_hv t199 400 3 = some (.inl 1) := (e199 400 3 (by first | decide | omega)).trans k187
            show en_ex _ _ _ _ (70, [(0, gx_r 383), (1, .inl 3), (2, .inl b)], [], t199, n, 0) _
            refine ex_go (S := (71, [(0, gx_r 383), (1, .inl 3), (2, .inl b)], [gx_r 383], t199, n, 0)) rfl (fun _ => rfl) rfl ?_
            refine ex_go (S := (72, [(0, gx_r 383), (1, .inl 3), (2, .inl b)], [.inl b, gx_r 383], t199, n, 0)) rfl (fun _ => rfl) rfl ?_
            by_cases hc101 : b = 0
            · refine gx_1t (c := .eq) rfl (by first | decide | omega) hc101 rfl ?_
              refine ex_go (S := (80, [(0, gx_r 383), (1, .inl 3), (2, .inl b)], [gx_r 383, gx_r 383], t199, n, 0)) rfl (fun _ => rfl) rfl ?_
              have k102 := (e199 383 26 (by first | decide | omega)).trans ((e187 383 26 (by first | decide | omega)).trans ((e121 383 26 (by first | decide | omega)).trans (h3)))
              refine gx_get rfl g199 rfl k102 rfl ?_
              refine gx_put rfl g199 rfl rfl (ai_in_h (by first | decide | omega) (by first | decide | omega) (by first | decide | omega)) rfl (fun t203 g203 k203 e203 => ?_)
              have k104 : ai_hv t203 400 3 = some (.inl 1) := (e203 400 3 (by first | decide | omega)).trans k100
              refine ex_go (S := (87, [(0, gx_r 383), (1, .inl 3), (2, .inl b)], [.inl 1], t203, n, 0)) rfl (fun _ => rfl) rfl ?_
              refine ex_ret (r := (some (.inl 1), t203, n, 0)) rfl (fun _ => rfl) ?_
              omega
            · refine gx_1f (c := .eq) rfl (by first | decide | omega) hc101 rfl ?_
              refine ex_go (S := (76, [(0, gx_r 383), (1, .inl 3), (2, .inl b)], [.inl 0, gx_r 383], t199, n, 0)) rfl (fun _ => rfl) rfl ?_
              refine ex_go (S := (83, [(0, gx_r 383), (1, .inl 3), (2, .inl b)], [.inl 0, gx_r 383], t199, n, 0)) rfl (fun _ => rfl) rfl ?_
              refine gx_put rfl g199 rfl rfl (ai_in_h (by first | decide | omega) (by first | decide | omega) (by first | decide | omega)) rfl (fun t205 g205 k205 e205 => ?_)
              have k106 : ai_hv t205 400 3 = some (.inl 1) := (e205 400 3 (by first | decide | omega)).trans k100
              refine ex_go (S := (87, [(0, gx_r 383), (1, .inl 3), (2, .inl b)], [.inl 1], t205, n, 0)) rfl (fun _ => rfl) rfl ?_
              refine ex_ret (r := (some (.inl 1), t205, n, 0)) rfl (fun _ => rfl) ?_
              have h399 : ∀ i, ai_hv t205 399 i = if 0 ≤ i ∧ i < 0 + 45 then ai_hv t0 399 (i - 0 + 180) else ai_hv t0 399 i := fun i => by
                refine (e205 399 i (by first | decide | omega)).trans ?_
                rw [y199]
                by_cases c9 : 0 ≤ i ∧ i < 0 + 45
                · rw [if_pos c9, if_pos c9]; exact (e187 399 _ (by first | decide | omega)).trans (e121 399 _ (by first | decide | omega))
                · rw [if_neg c9, if_neg c9]; exact (e187 399 i (by first | decide | omega)).trans (e121 399 i (by first | decide | omega))
              have hot : ∀ c i, c ≠ 399 → ¬ (c = 383 ∧ (i = 0 ∨ i = 26)) → ¬ (c = 400 ∧ i = 3) → ai_hv t205 c i = ai_hv t0 c i := fun c i h8 h9 h10 => (e205 c i (by first | decide | omega)).trans ((e199 c i (by first | decide | omega)).trans ((e187 c i (by first | decide | omega)).trans (e121 c i (by first | decide | omega))))
              have hfr : (∀ c i, ¬ ((c = 399 ∧ i < 225) ∨ (c = 383 ∧ (i = 0 ∨ i = 26)) ∨ c = 400) → ai_hv t205 c i = ai_hv t0 c i) := fun c i h => by
                by_cases c9 : c = 399
                · subst c9; rw [h399, if_neg (by first | decide | omega)]
                · exact hot c i c9 (by first | decide | omega) (by first | decide | omega)
              have hy9 := (h7 3 (by decide)).2 (by first | decide | omega)
              refine ⟨_, rfl, 1, t205, rfl, g205, hfr, (fun z => absurd ⟨by decide, Or.inr (by first | decide | omega)⟩ z), (fun z => by omega), fun _ => ⟨rfl, (fun j hj => ?_), ?_, ⟨k205, fun k hk => absurd hk (Nat.not_lt_zero k)⟩, fun m9 hm9 => ?_⟩⟩
              · rw [h399, if_pos (by first | decide | omega), show 0 + j - 0 + 180 = 45 * (1 + 3) + j by omega]; exact hy9.1 j hj
              · rw [h399, if_pos (by decide)]; exact hy9.2
              · refine ⟨?_, fun z => ⟨fun j hj => by
                  rw [h399, if_neg (by first | decide | omega)]; exact ((h7 m9 hm9).2 z).1 j hj, by
                  rw [h399, if_neg (by first | decide | omega)]; exact ((h7 m9 hm9).2 z).2⟩⟩
                by_cases e9 : m9 = 3
                · subst e9
                  rw [show F 3 = 1 by omega]; exact k106
                · exact (hot _ _ (by decide) (by first | decide | omega) (by first | decide | omega)).trans (h7 m9 hm9).1
    · refine gx_1f (c := .eq) rfl (by first | decide | omega) hc26 rfl ?_
      refine ex_go (S := (19, [(0, gx_r 383), (1, .inl m), (2, .inl b)], [gx_r 383], t121, n, 0)) rfl (fun _ => rfl) rfl ?_
      refine gx_ref (c := 400) rfl g121 rfl rfl rfl rfl ?_
      refine ex_go (S := (23, [(0, gx_r 383), (1, .inl m), (2, .inl b)], [.inl m, gx_r 400], t121, n, 0)) rfl (fun _ => rfl) rfl ?_
      have hf1 := hF m (by first | decide | omega)
      refine gx_ag (v := .inl (F m)) (cb := fun c => Nat.beq c 2 || Nat.beq c 1) rfl (fun _ => rfl) g121 rfl rfl ((e121 400 m (by first | decide | omega)).trans ((h7 m (by first | decide | omega)).1)) (by first | decide | omega) rfl ?_
      by_cases hc107 : F m ≠ 0
      · refine gx_1t (c := .ne) rfl (by first | decide | omega) hc107 rfl ?_
        rcases (show m = 0 ∨ m = 1 ∨ m = 2 ∨ m = 3 by omega) with rfl | rfl | rfl | rfl
        · refine ex_go (S := (30, [(0, gx_r 383), (1, .inl 0), (2, .inl b)], [gx_r 383], t121, n, 0)) rfl (fun _ => rfl) rfl ?_
          refine gx_ref (c := 400) rfl g121 rfl rfl rfl rfl ?_
          refine ex_go (S := (34, [(0, gx_r 383), (1, .inl 0), (2, .inl b)], [.inl 0, gx_r 400], t121, n, 0)) rfl (fun _ => rfl) rfl ?_
          refine ex_go (S := (35, [(0, gx_r 383), (1, .inl 0), (2, .inl b)], [.inl 1, .inl 0, gx_r 400], t121, n, 0)) rfl (fun _ => rfl) rfl ?_
          refine gx_apv (d := 2) rfl (fun _ => rfl) g121 rfl rfl rfl (show 0 < 4 from by omega) rfl (ai_in_h (by first | decide | omega) (by first | decide | omega) (by first | decide | omega)) rfl (fun t208 g208 k208 e208 => ?_)
          refine ex_go (S := (37, [(0, gx_r 383), (1, .inl 0), (2, .inl b)], [gx_r 383], t208, n, 0)) rfl (fun _ => rfl) rfl ?_
          refine ex_go (S := (38, [(0, gx_r 383), (1, .inl 0), (2, .inl b)], [.inl b, gx_r 383], t208, n, 0)) rfl (fun _ => rfl) rfl ?_
          by_cases hc109 : b = 0
          · refine gx_1t (c := .eq) rfl (by first | decide | omega) hc109 rfl ?_
            refine ex_go (S := (51, [(0, gx_r 383), (1, .inl 0), (2, .inl b)], [.inl 0, gx_r 383], t208, n, 0)) rfl (fun _ => rfl) rfl ?_
            refine ex_go (S := (52, [(0, gx_r 383), (1, .inl 0), (2, .inl b)], [.inl b, .inl 0, gx_r 383], t208, n, 0)) rfl (fun _ => rfl) rfl ?_
            by_cases hc110 : b = 0
            · refine gx_1t (c := .eq) rfl (by first | decide | omega) hc110 rfl ?_
              refine ex_go (S := (61, [(0, gx_r 383), (1, .inl 0), (2, .inl b)], [.inl 45, .inl 0, gx_r 383], t208, n, 0)) rfl (fun _ => rfl) rfl ?_
              refine ex_go (S := (62, [(0, gx_r 383), (1, .inl 0), (2, .inl b)], [.inl 1, .inl 45, .inl 0, gx_r 383], t208, n, 0)) rfl (fun _ => rfl) rfl ?_
              refine ex_go (S := (63, [(0, gx_r 383), (1, .inl 0), (2, .inl b)], [.inl 0, .inl 1, .inl 45, .inl 0, gx_r 383], t208, n, 0)) rfl (fun _ => rfl) rfl ?_
              refine ex_go (S := (64, [(0, gx_r 383), (1, .inl 0), (2, .inl b)], [.inl 1, .inl 45, .inl 0, gx_r 383], t208, n, 0)) rfl (fun _ => rfl) rfl ?_
              refine ex_go (S := (65, [(0, gx_r 383), (1, .inl 0), (2, .inl b)], [.inl 45, .inl 0, gx_r 383], t208, n, 0)) rfl (fun _ => rfl) rfl ?_
              refine ex_go (S := (67, [(0, gx_r 383), (1, .inl 0), (2, .inl b)], [.inl 45, .inl 45, .inl 0, gx_r 383], t208, n, 0)) rfl (fun _ => rfl) rfl ?_
              obtain ⟨_, r211, t211, rfl, g211, e211, y211⟩ := pe_copies d n (f := 0) (t := 45) (m := 45) g208 (by decide +kernel) (by decide) (by decide) (by decide) (by decide)
              refine gx_call0 rfl rfl g208 rfl rfl r211 rfl ?_
              have k112 : ai_hv t211 400 0 = some (.inl 1) := (e211 400 0 (by first | decide | omega)).trans k208
              show en_ex _ _ _ _ (70, [(0, gx_r 383), (1, .inl 0), (2, .inl b)], [], t211, n, 0) _
              refine ex_go (S := (71, [(0, gx_r 383), (1, .inl 0), (2, .inl b)], [gx_r 383], t211, n, 0)) rfl (fun _ => rfl) rfl ?_
              refine ex_go (S := (72, [(0, gx_r 383), (1, .inl 0), (2, .inl b)], [.inl b, gx_r 383], t211, n, 0)) rfl (fun _ => rfl) rfl ?_
              by_cases hc113 : b = 0
              · refine gx_1t (c := .eq) rfl (by first | decide | omega) hc113 rfl ?_
                refine ex_go (S := (80, [(0, gx_r 383), (1, .inl 0), (2, .inl b)], [gx_r 383, gx_r 383], t211, n, 0)) rfl (fun _ => rfl) rfl ?_
                have k114 := (e211 383 26 (by first | decide | omega)).trans ((e208 383 26 (by first | decide | omega)).trans ((e121 383 26 (by first | decide | omega)).trans (h3)))
                refine gx_get rfl g211 rfl k114 rfl ?_
                refine gx_put rfl g211 rfl rfl (ai_in_h (by first | decide | omega) (by first | decide | omega) (by first | decide | omega)) rfl (fun t215 g215 k215 e215 => ?_)
                have k116 : ai_hv t215 400 0 = some (.inl 1) := (e215 400 0 (by first | decide | omega)).trans k112
                refine ex_go (S := (87, [(0, gx_r 383), (1, .inl 0), (2, .inl b)], [.inl 1], t215, n, 0)) rfl (fun _ => rfl) rfl ?_
                refine ex_ret (r := (some (.inl 1), t215, n, 0)) rfl (fun _ => rfl) ?_
                have h399 : ∀ i, ai_hv t215 399 i = if 45 ≤ i ∧ i < 45 + 45 then ai_hv t0 399 (i - 45 + 0) else ai_hv t0 399 i := fun i => by
                  refine (e215 399 i (by first | decide | omega)).trans ?_
                  rw [y211]
                  by_cases c9 : 45 ≤ i ∧ i < 45 + 45
                  · rw [if_pos c9, if_pos c9]; exact (e208 399 _ (by first | decide | omega)).trans (e121 399 _ (by first | decide | omega))
                  · rw [if_neg c9, if_neg c9]; exact (e208 399 i (by first | decide | omega)).trans (e121 399 i (by first | decide | omega))
                have hot : ∀ c i, c ≠ 399 → ¬ (c = 383 ∧ (i = 0 ∨ i = 26)) → ¬ (c = 400 ∧ i = 0) → ai_hv t215 c i = ai_hv t0 c i := fun c i h8 h9 h10 => (e215 c i (by first | decide | omega)).trans ((e211 c i (by first | decide | omega)).trans ((e208 c i (by first | decide | omega)).trans (e121 c i (by first | decide | omega))))
                have hfr : (∀ c i, ¬ ((c = 399 ∧ i < 225) ∨ (c = 383 ∧ (i = 0 ∨ i = 26)) ∨ c = 400) → ai_hv t215 c i = ai_hv t0 c i) := fun c i h => by
                  by_cases c9 : c = 399
                  · subst c9; rw [h399, if_neg (by first | decide | omega)]
                  · exact hot c i c9 (by first | decide | omega) (by first | decide | omega)
                refine ⟨_, rfl, 1, t215, rfl, g215, hfr, (fun z => absurd ⟨by decide, Or.inl (by first | decide | omega)⟩ z), (fun _ => ⟨rfl, (fun j hj => ?_), ?_, ⟨k215, fun k hk j hj => ?_⟩, fun m9 hm9 => ?_⟩), fun z => by omega⟩
                · rw [h399, if_neg (by first | decide | omega)]; exact h1 j hj
                · rw [h399, if_neg (by decide)]; exact h2
                · rw [h399, if_neg (by first | decide | omega)]; exact h4 k hk j hj
                · by_cases e9 : m9 = 0
                  · subst e9
                    rw [up1_t, up1_t, up1_t]
                    exact ⟨k116, fun _ => ⟨fun j hj => by
                      rw [h399, if_pos (by first | decide | omega), show 45 * (1 + 0) + j - 45 + 0 = 0 + j by omega]; exact h1 j hj, by
                      rw [h399, if_pos (by decide)]; exact h2⟩⟩
                  · rw [up1_f e9, up1_f e9, up1_f e9]
                    exact ⟨(hot _ _ (by decide) (by first | decide | omega) (by first | decide | omega)).trans (h7 m9 hm9).1, fun z => ⟨fun j hj => by
                      rw [h399, if_neg (by first | decide | omega)]; exact ((h7 m9 hm9).2 z).1 j hj, by
                      rw [h399, if_neg (by first | decide | omega)]; exact ((h7 m9 hm9).2 z).2⟩⟩
              · refine gx_1f (c := .eq) rfl (by first | decide | omega) hc113 rfl ?_
                refine ex_go (S := (76, [(0, gx_r 383), (1, .inl 0), (2, .inl b)], [.inl 0, gx_r 383], t211, n, 0)) rfl (fun _ => rfl) rfl ?_
                refine ex_go (S := (83, [(0, gx_r 383), (1, .inl 0), (2, .inl b)], [.inl 0, gx_r 383], t211, n, 0)) rfl (fun _ => rfl) rfl ?_
                refine gx_put rfl g211 rfl rfl (ai_in_h (by first | decide | omega) (by first | decide | omega) (by first | decide | omega)) rfl (fun t217 g217 k217 e217 => ?_)
                have k118 : ai_hv t217 400 0 = some (.inl 1) := (e217 400 0 (by first | decide | omega)).trans k112
                refine ex_go (S := (87, [(0, gx_r 383), (1, .inl 0), (2, .inl b)], [.inl 1], t217, n, 0)) rfl (fun _ => rfl) rfl ?_
                refine ex_ret (r := (some (.inl 1), t217, n, 0)) rfl (fun _ => rfl) ?_
                omega
            · refine gx_1f (c := .eq) rfl (by first | decide | omega) hc110 rfl ?_
              refine ex_go (S := (56, [(0, gx_r 383), (1, .inl 0), (2, .inl b)], [.inl 0, .inl 0, gx_r 383], t208, n, 0)) rfl (fun _ => rfl) rfl ?_
              refine ex_go (S := (65, [(0, gx_r 383), (1, .inl 0), (2, .inl b)], [.inl 0, .inl 0, gx_r 383], t208, n, 0)) rfl (fun _ => rfl) rfl ?_
              refine ex_go (S := (67, [(0, gx_r 383), (1, .inl 0), (2, .inl b)], [.inl 45, .inl 0, .inl 0, gx_r 383], t208, n, 0)) rfl (fun _ => rfl) rfl ?_
              omega
          · refine gx_1f (c := .eq) rfl (by first | decide | omega) hc109 rfl ?_
            refine ex_go (S := (43, [(0, gx_r 383), (1, .inl 0), (2, .inl b)], [.inl 45, gx_r 383], t208, n, 0)) rfl (fun _ => rfl) rfl ?_
            refine ex_go (S := (44, [(0, gx_r 383), (1, .inl 0), (2, .inl b)], [.inl 1, .inl 45, gx_r 383], t208, n, 0)) rfl (fun _ => rfl) rfl ?_
            refine ex_go (S := (45, [(0, gx_r 383), (1, .inl 0), (2, .inl b)], [.inl 0, .inl 1, .inl 45, gx_r 383], t208, n, 0)) rfl (fun _ => rfl) rfl ?_
            refine ex_go (S := (46, [(0, gx_r 383), (1, .inl 0), (2, .inl b)], [.inl 1, .inl 45, gx_r 383], t208, n, 0)) rfl (fun _ => rfl) rfl ?_
            refine ex_go (S := (47, [(0, gx_r 383), (1, .inl 0), (2, .inl b)], [.inl 45, gx_r 383], t208, n, 0)) rfl (fun _ => rfl) rfl ?_
            refine ex_go (S := (51, [(0, gx_r 383), (1, .inl 0), (2, .inl b)], [.inl 45, gx_r 383], t208, n, 0)) rfl (fun _ => rfl) rfl ?_
            refine ex_go (S := (52, [(0, gx_r 383), (1, .inl 0), (2, .inl b)], [.inl b, .inl 45, gx_r 383], t208, n, 0)) rfl (fun _ => rfl) rfl ?_
            by_cases hc119 : b = 0
            · refine gx_1t (c := .eq) rfl (by first | decide | omega) hc119 rfl ?_
              refine ex_go (S := (61, [(0, gx_r 383), (1, .inl 0), (2, .inl b)], [.inl 45, .inl 45, gx_r 383], t208, n, 0)) rfl (fun _ => rfl) rfl ?_
              refine ex_go (S := (62, [(0, gx_r 383), (1, .inl 0), (2, .inl b)], [.inl 1, .inl 45, .inl 45, gx_r 383], t208, n, 0)) rfl (fun _ => rfl) rfl ?_
              refine ex_go (S := (63, [(0, gx_r 383), (1, .inl 0), (2, .inl b)], [.inl 0, .inl 1, .inl 45, .inl 45, gx_r 383], t208, n, 0)) rfl (fun _ => rfl) rfl ?_
              refine ex_go (S := (64, [(0, gx_r 383), (1, .inl 0), (2, .inl b)], [.inl 1, .inl 45, .inl 45, gx_r 383], t208, n, 0)) rfl (fun _ => rfl) rfl ?_
              refine ex_go (S := (65, [(0, gx_r 383), (1, .inl 0), (2, .inl b)], [.inl 45, .inl 45, gx_r 383], t208, n, 0)) rfl (fun _ => rfl) rfl ?_
              refine ex_go (S := (67, [(0, gx_r 383), (1, .inl 0), (2, .inl b)], [.inl 45, .inl 45, .inl 45, gx_r 383], t208, n, 0)) rfl (fun _ => rfl) rfl ?_
              omega
            · refine gx_1f (c := .eq) rfl (by first | decide | omega) hc119 rfl ?_
              refine ex_go (S := (56, [(0, gx_r 383), (1, .inl 0), (2, .inl b)], [.inl 0, .inl 45, gx_r 383], t208, n, 0)) rfl (fun _ => rfl) rfl ?_
              refine ex_go (S := (65, [(0, gx_r 383), (1, .inl 0), (2, .inl b)], [.inl 0, .inl 45, gx_r 383], t208, n, 0)) rfl (fun _ => rfl) rfl ?_
              refine ex_go (S := (67, [(0, gx_r 383), (1, .inl 0), (2, .inl b)], [.inl 45, .inl 0, .inl 45, gx_r 383], t208, n, 0)) rfl (fun _ => rfl) rfl ?_
              obtain ⟨_, r220, t220, rfl, g220, e220, y220⟩ := pe_copies d n (f := 45) (t := 0) (m := 45) g208 (by decide +kernel) (by decide) (by decide) (by decide) (by decide)
              refine gx_call0 rfl rfl g208 rfl rfl r220 rfl ?_
              have k121 : ai_hv t220 400 0 = some (.inl 1) := (e220 400 0 (by first | decide | omega)).trans k208
              show en_ex _ _ _ _ (70, [(0, gx_r 383), (1, .inl 0), (2, .inl b)], [], t220, n, 0) _
              refine ex_go (S := (71, [(0, gx_r 383), (1, .inl 0), (2, .inl b)], [gx_r 383], t220, n, 0)) rfl (fun _ => rfl) rfl ?_
              refine ex_go (S := (72, [(0, gx_r 383), (1, .inl 0), (2, .inl b)], [.inl b, gx_r 383], t220, n, 0)) rfl (fun _ => rfl) rfl ?_
              by_cases hc122 : b = 0
              · refine gx_1t (c := .eq) rfl (by first | decide | omega) hc122 rfl ?_
                refine ex_go (S := (80, [(0, gx_r 383), (1, .inl 0), (2, .inl b)], [gx_r 383, gx_r 383], t220, n, 0)) rfl (fun _ => rfl) rfl ?_
                have k123 := (e220 383 26 (by first | decide | omega)).trans ((e208 383 26 (by first | decide | omega)).trans ((e121 383 26 (by first | decide | omega)).trans (h3)))
                refine gx_get rfl g220 rfl k123 rfl ?_
                refine gx_put rfl g220 rfl rfl (ai_in_h (by first | decide | omega) (by first | decide | omega) (by first | decide | omega)) rfl (fun t224 g224 k224 e224 => ?_)
                have k125 : ai_hv t224 400 0 = some (.inl 1) := (e224 400 0 (by first | decide | omega)).trans k121
                refine ex_go (S := (87, [(0, gx_r 383), (1, .inl 0), (2, .inl b)], [.inl 1], t224, n, 0)) rfl (fun _ => rfl) rfl ?_
                refine ex_ret (r := (some (.inl 1), t224, n, 0)) rfl (fun _ => rfl) ?_
                omega
              · refine gx_1f (c := .eq) rfl (by first | decide | omega) hc122 rfl ?_
                refine ex_go (S := (76, [(0, gx_r 383), (1, .inl 0), (2, .inl b)], [.inl 0, gx_r 383], t220, n, 0)) rfl (fun _ => rfl) rfl ?_
                refine ex_go (S := (83, [(0, gx_r 383), (1, .inl 0), (2, .inl b)], [.inl 0, gx_r 383], t220, n, 0)) rfl (fun _ => rfl) rfl ?_
                refine gx_put rfl g220 rfl rfl (ai_in_h (by first | decide | omega) (by first | decide | omega) (by first | decide | omega)) rfl (fun t226 g226 k226 e226 => ?_)
                have k127 : ai_hv t226 400 0 = some (.inl 1) := (e226 400 0 (by first | decide | omega)).trans k121
                refine ex_go (S := (87, [(0, gx_r 383), (1, .inl 0), (2, .inl b)], [.inl 1], t226, n, 0)) rfl (fun _ => rfl) rfl ?_
                refine ex_ret (r := (some (.inl 1), t226, n, 0)) rfl (fun _ => rfl) ?_
                have h399 : ∀ i, ai_hv t226 399 i = if 0 ≤ i ∧ i < 0 + 45 then ai_hv t0 399 (i - 0 + 45) else ai_hv t0 399 i := fun i => by
                  refine (e226 399 i (by first | decide | omega)).trans ?_
                  rw [y220]
                  by_cases c9 : 0 ≤ i ∧ i < 0 + 45
                  · rw [if_pos c9, if_pos c9]; exact (e208 399 _ (by first | decide | omega)).trans (e121 399 _ (by first | decide | omega))
                  · rw [if_neg c9, if_neg c9]; exact (e208 399 i (by first | decide | omega)).trans (e121 399 i (by first | decide | omega))
                have hot : ∀ c i, c ≠ 399 → ¬ (c = 383 ∧ (i = 0 ∨ i = 26)) → ¬ (c = 400 ∧ i = 0) → ai_hv t226 c i = ai_hv t0 c i := fun c i h8 h9 h10 => (e226 c i (by first | decide | omega)).trans ((e220 c i (by first | decide | omega)).trans ((e208 c i (by first | decide | omega)).trans (e121 c i (by first | decide | omega))))
                have hfr : (∀ c i, ¬ ((c = 399 ∧ i < 225) ∨ (c = 383 ∧ (i = 0 ∨ i = 26)) ∨ c = 400) → ai_hv t226 c i = ai_hv t0 c i) := fun c i h => by
                  by_cases c9 : c = 399
                  · subst c9; rw [h399, if_neg (by first | decide | omega)]
                  · exact hot c i c9 (by first | decide | omega) (by first | decide | omega)
                have hy9 := (h7 0 (by decide)).2 (by first | decide | omega)
                refine ⟨_, rfl, 1, t226, rfl, g226, hfr, (fun z => absurd ⟨by decide, Or.inr (by first | decide | omega)⟩ z), (fun z => by omega), fun _ => ⟨rfl, (fun j hj => ?_), ?_, ⟨k226, fun k hk => absurd hk (Nat.not_lt_zero k)⟩, fun m9 hm9 => ?_⟩⟩
                · rw [h399, if_pos (by first | decide | omega), show 0 + j - 0 + 45 = 45 * (1 + 0) + j by omega]; exact hy9.1 j hj
                · rw [h399, if_pos (by decide)]; exact hy9.2
                · refine ⟨?_, fun z => ⟨fun j hj => by
                    rw [h399, if_neg (by first | decide | omega)]; exact ((h7 m9 hm9).2 z).1 j hj, by
                    rw [h399, if_neg (by first | decide | omega)]; exact ((h7 m9 hm9).2 z).2⟩⟩
                  by_cases e9 : m9 = 0
                  · subst e9
                    rw [show F 0 = 1 by omega]; exact k127
                  · exact (hot _ _ (by decide) (by first | decide | omega) (by first | decide | omega)).trans (h7 m9 hm9).1
        · refine ex_go (S := (30, [(0, gx_r 383), (1, .inl 1), (2, .inl b)], [gx_r 383], t121, n, 0)) rfl (fun _ => rfl) rfl ?_
          refine gx_ref (c := 400) rfl g121 rfl rfl rfl rfl ?_
          refine ex_go (S := (34, [(0, gx_r 383), (1, .inl 1), (2, .inl b)], [.inl 1, gx_r 400], t121, n, 0)) rfl (fun _ => rfl) rfl ?_
          refine ex_go (S := (35, [(0, gx_r 383), (1, .inl 1), (2, .inl b)], [.inl 1, .inl 1, gx_r 400], t121, n, 0)) rfl (fun _ => rfl) rfl ?_
          refine gx_apv (d := 2) rfl (fun _ => rfl) g121 rfl rfl rfl (show 1 < 4 from by omega) rfl (ai_in_h (by first | decide | omega) (by first | decide | omega) (by first | decide | omega)) rfl (fun t228 g228 k228 e228 => ?_)
          refine ex_go (S := (37, [(0, gx_r 383), (1, .inl 1), (2, .inl b)], [gx_r 383], t228, n, 0)) rfl (fun _ => rfl) rfl ?_
          refine ex_go (S := (38, [(0, gx_r 383), (1, .inl 1), (2, .inl b)], [.inl b, gx_r 383], t228, n, 0)) rfl (fun _ => rfl) rfl ?_
          by_cases hc129 : b = 0
          · refine gx_1t (c := .eq) rfl (by first | decide | omega) hc129 rfl ?_
            refine ex_go (S := (51, [(0, gx_r 383), (1, .inl 1), (2, .inl b)], [.inl 0, gx_r 383], t228, n, 0)) rfl (fun _ => rfl) rfl ?_
            refine ex_go (S := (52, [(0, gx_r 383), (1, .inl 1), (2, .inl b)], [.inl b, .inl 0, gx_r 383], t228, n, 0)) rfl (fun _ => rfl) rfl ?_
            by_cases hc130 : b = 0
            · refine gx_1t (c := .eq) rfl (by first | decide | omega) hc130 rfl ?_
              refine ex_go (S := (61, [(0, gx_r 383), (1, .inl 1), (2, .inl b)], [.inl 45, .inl 0, gx_r 383], t228, n, 0)) rfl (fun _ => rfl) rfl ?_
              refine ex_go (S := (62, [(0, gx_r 383), (1, .inl 1), (2, .inl b)], [.inl 1, .inl 45, .inl 0, gx_r 383], t228, n, 0)) rfl (fun _ => rfl) rfl ?_
              refine ex_go (S := (63, [(0, gx_r 383), (1, .inl 1), (2, .inl b)], [.inl 1, .inl 1, .inl 45, .inl 0, gx_r 383], t228, n, 0)) rfl (fun _ => rfl) rfl ?_
              refine ex_go (S := (64, [(0, gx_r 383), (1, .inl 1), (2, .inl b)], [.inl 2, .inl 45, .inl 0, gx_r 383], t228, n, 0)) rfl (fun _ => rfl) rfl ?_
              refine ex_go (S := (65, [(0, gx_r 383), (1, .inl 1), (2, .inl b)], [.inl 90, .inl 0, gx_r 383], t228, n, 0)) rfl (fun _ => rfl) rfl ?_
              refine ex_go (S := (67, [(0, gx_r 383), (1, .inl 1), (2, .inl b)], [.inl 45, .inl 90, .inl 0, gx_r 383], t228, n, 0)) rfl (fun _ => rfl) rfl ?_
              obtain ⟨_, r231, t231, rfl, g231, e231, y231⟩ := pe_copies d n (f := 0) (t := 90) (m := 45) g228 (by decide +kernel) (by decide) (by decide) (by decide) (by decide)
              refine gx_call0 rfl rfl g228 rfl rfl r231 rfl ?_
              have k132 : ai_hv t231 400 1 = some (.inl 1) := (e231 400 1 (by first | decide | omega)).trans k228
              show en_ex _ _ _ _ (70, [(0, gx_r 383), (1, .inl 1), (2, .inl b)], [], t231, n, 0) _
              refine ex_go (S := (71, [(0, gx_r 383), (1, .inl 1), (2, .inl b)], [gx_r 383], t231, n, 0)) rfl (fun _ => rfl) rfl ?_
              refine ex_go (S := (72, [(0, gx_r 383), (1, .inl 1), (2, .inl b)], [.inl b, gx_r 383], t231, n, 0)) rfl (fun _ => rfl) rfl ?_
              by_cases hc133 : b = 0
              · refine gx_1t (c := .eq) rfl (by first | decide | omega) hc133 rfl ?_
                refine ex_go (S := (80, [(0, gx_r 383), (1, .inl 1), (2, .inl b)], [gx_r 383, gx_r 383], t231, n, 0)) rfl (fun _ => rfl) rfl ?_
                have k134 := (e231 383 26 (by first | decide | omega)).trans ((e228 383 26 (by first | decide | omega)).trans ((e121 383 26 (by first | decide | omega)).trans (h3)))
                refine gx_get rfl g231 rfl k134 rfl ?_
                refine gx_put rfl g231 rfl rfl (ai_in_h (by first | decide | omega) (by first | decide | omega) (by first | decide | omega)) rfl (fun t235 g235 k235 e235 => ?_)
                have k136 : ai_hv t235 400 1 = some (.inl 1) := (e235 400 1 (by first | decide | omega)).trans k132
                refine ex_go (S := (87, [(0, gx_r 383), (1, .inl 1), (2, .inl b)], [.inl 1], t235, n, 0)) rfl (fun _ => rfl) rfl ?_
                refine ex_ret (r := (some (.inl 1), t235, n, 0)) rfl (fun _ => rfl) ?_
                have h399 : ∀ i, ai_hv t235 399 i = if 90 ≤ i ∧ i < 90 + 45 then ai_hv t0 399 (i - 90 + 0) else ai_hv t0 399 i := fun i => by
                  refine (e235 399 i (by first | decide | omega)).trans ?_
                  rw [y231]
                  by_cases c9 : 90 ≤ i ∧ i < 90 + 45
                  · rw [if_pos c9, if_pos c9]; exact (e228 399 _ (by first | decide | omega)).trans (e121 399 _ (by first | decide | omega))
                  · rw [if_neg c9, if_neg c9]; exact (e228 399 i (by first | decide | omega)).trans (e121 399 i (by first | decide | omega))
                have hot : ∀ c i, c ≠ 399 → ¬ (c = 383 ∧ (i = 0 ∨ i = 26)) → ¬ (c = 400 ∧ i = 1) → ai_hv t235 c i = ai_hv t0 c i := fun c i h8 h9 h10 => (e235 c i (by first | decide | omega)).trans ((e231 c i (by first | decide | omega)).trans ((e228 c i (by first | decide | omega)).trans (e121 c i (by first | decide | omega))))
                have hfr : (∀ c i, ¬ ((c = 399 ∧ i < 225) ∨ (c = 383 ∧ (i = 0 ∨ i = 26)) ∨ c = 400) → ai_hv t235 c i = ai_hv t0 c i) := fun c i h => by
                  by_cases c9 : c = 399
                  · subst c9; rw [h399, if_neg (by first | decide | omega)]
                  · exact hot c i c9 (by first | decide | omega) (by first | decide | omega)
                refine ⟨_, rfl, 1, t235, rfl, g235, hfr, (fun z => absurd ⟨by decide, Or.inl (by first | decide | omega)⟩ z), (fun _ => ⟨rfl, (fun j hj => ?_), ?_, ⟨k235, fun k hk j hj => ?_⟩, fun m9 hm9 => ?_⟩), fun z => by omega⟩
                · rw [h399, if_neg (by first | decide | omega)]; exact h1 j hj
                · rw [h399, if_neg (by decide)]; exact h2
                · rw [h399, if_neg (by first | decide | omega)]; exact h4 k hk j hj
                · by_cases e9 : m9 = 1
                  · subst e9
                    rw [up1_t, up1_t, up1_t]
                    exact ⟨k136, fun _ => ⟨fun j hj => by
                      rw [h399, if_pos (by first | decide | omega), show 45 * (1 + 1) + j - 90 + 0 = 0 + j by omega]; exact h1 j hj, by
                      rw [h399, if_pos (by decide)]; exact h2⟩⟩
                  · rw [up1_f e9, up1_f e9, up1_f e9]
                    exact ⟨(hot _ _ (by decide) (by first | decide | omega) (by first | decide | omega)).trans (h7 m9 hm9).1, fun z => ⟨fun j hj => by
                      rw [h399, if_neg (by first | decide | omega)]; exact ((h7 m9 hm9).2 z).1 j hj, by
                      rw [h399, if_neg (by first | decide | omega)]; exact ((h7 m9 hm9).2 z).2⟩⟩
              · refine gx_1f (c := .eq) rfl (by first | decide | omega) hc133 rfl ?_
                refine ex_go (S := (76, [(0, gx_r 383), (1, .inl 1), (2, .inl b)], [.inl 0, gx_r 383], t231, n, 0)) rfl (fun _ => rfl) rfl ?_
                refine ex_go (S := (83, [(0, gx_r 383), (1, .inl 1), (2, .inl b)], [.inl 0, gx_r 383], t231, n, 0)) rfl (fun _ => rfl) rfl ?_
                refine gx_put rfl g231 rfl rfl (ai_in_h (by first | decide | omega) (by first | decide | omega) (by first | decide | omega)) rfl (fun t237 g237 k237 e237 => ?_)
                have k138 : ai_hv t237 400 1 = some (.inl 1) := (e237 400 1 (by first | decide | omega)).trans k132
                refine ex_go (S := (87, [(0, gx_r 383), (1, .inl 1), (2, .inl b)], [.inl 1], t237, n, 0)) rfl (fun _ => rfl) rfl ?_
                refine ex_ret (r := (some (.inl 1), t237, n, 0)) rfl (fun _ => rfl) ?_
                omega
            · refine gx_1f (c := .eq) rfl (by first | decide | omega) hc130 rfl ?_
              refine ex_go (S := (56, [(0, gx_r 383), (1, .inl 1), (2, .inl b)], [.inl 0, .inl 0, gx_r 383], t228, n, 0)) rfl (fun _ => rfl) rfl ?_
              refine ex_go (S := (65, [(0, gx_r 383), (1, .inl 1), (2, .inl b)], [.inl 0, .inl 0, gx_r 383], t228, n, 0)) rfl (fun _ => rfl) rfl ?_
              refine ex_go (S := (67, [(0, gx_r 383), (1, .inl 1), (2, .inl b)], [.inl 45, .inl 0, .inl 0, gx_r 383], t228, n, 0)) rfl (fun _ => rfl) rfl ?_
              omega
          · refine gx_1f (c := .eq) rfl (by first | decide | omega) hc129 rfl ?_
            refine ex_go (S := (43, [(0, gx_r 383), (1, .inl 1), (2, .inl b)], [.inl 45, gx_r 383], t228, n, 0)) rfl (fun _ => rfl) rfl ?_
            refine ex_go (S := (44, [(0, gx_r 383), (1, .inl 1), (2, .inl b)], [.inl 1, .inl 45, gx_r 383], t228, n, 0)) rfl (fun _ => rfl) rfl ?_
            refine ex_go (S := (45, [(0, gx_r 383), (1, .inl 1), (2, .inl b)], [.inl 1, .inl 1, .inl 45, gx_r 383], t228, n, 0)) rfl (fun _ => rfl) rfl ?_
            refine ex_go (S := (46, [(0, gx_r 383), (1, .inl 1), (2, .inl b)], [.inl 2, .inl 45, gx_r 383], t228, n, 0)) rfl (fun _ => rfl) rfl ?_
            refine ex_go (S := (47, [(0, gx_r 383), (1, .inl 1), (2, .inl b)], [.inl 90, gx_r 383], t228, n, 0)) rfl (fun _ => rfl) rfl ?_
            refine ex_go (S := (51, [(0, gx_r 383), (1, .inl 1), (2, .inl b)], [.inl 90, gx_r 383], t228, n, 0)) rfl (fun _ => rfl) rfl ?_
            refine ex_go (S := (52, [(0, gx_r 383), (1, .inl 1), (2, .inl b)], [.inl b, .inl 90, gx_r 383], t228, n, 0)) rfl (fun _ => rfl) rfl ?_
            by_cases hc139 : b = 0
            · refine gx_1t (c := .eq) rfl (by first | decide | omega) hc139 rfl ?_
              refine ex_go (S := (61, [(0, gx_r 383), (1, .inl 1), (2, .inl b)], [.inl 45, .inl 90, gx_r 383], t228, n, 0)) rfl (fun _ => rfl) rfl ?_
              refine ex_go (S := (62, [(0, gx_r 383), (1, .inl 1), (2, .inl b)], [.inl 1, .inl 45, .inl 90, gx_r 383], t228, n, 0)) rfl (fun _ => rfl) rfl ?_
              refine ex_go (S := (63, [(0, gx_r 383), (1, .inl 1), (2, .inl b)], [.inl 1, .inl 1, .inl 45, .inl 90, gx_r 383], t228, n, 0)) rfl (fun _ => rfl) rfl ?_
              refine ex_go (S := (64, [(0, gx_r 383), (1, .inl 1), (2, .inl b)], [.inl 2, .inl 45, .inl 90, gx_r 383], t228, n, 0)) rfl (fun _ => rfl) rfl ?_
              refine ex_go (S := (65, [(0, gx_r 383), (1, .inl 1), (2, .inl b)], [.inl 90, .inl 90, gx_r 383], t228, n, 0)) rfl (fun _ => rfl) rfl ?_
              refine ex_go (S := (67, [(0, gx_r 383), (1, .inl 1), (2, .inl b)], [.inl 45, .inl 90, .inl 90, gx_r 383], t228, n, 0)) rfl (fun _ => rfl) rfl ?_
              omega
            · refine gx_1f (c := .eq) rfl (by first | decide | omega) hc139 rfl ?_
              refine ex_go (S := (56, [(0, gx_r 383), (1, .inl 1), (2, .inl b)], [.inl 0, .inl 90, gx_r 383], t228, n, 0)) rfl (fun _ => rfl) rfl ?_
              refine ex_go (S := (65, [(0, gx_r 383), (1, .inl 1), (2, .inl b)], [.inl 0, .inl 90, gx_r 383], t228, n, 0)) rfl (fun _ => rfl) rfl ?_
              refine ex_go (S := (67, [(0, gx_r 383), (1, .inl 1), (2, .inl b)], [.inl 45, .inl 0, .inl 90, gx_r 383], t228, n, 0)) rfl (fun _ => rfl) rfl ?_
              obtain ⟨_, r240, t240, rfl, g240, e240, y240⟩ := pe_copies d n (f := 90) (t := 0) (m := 45) g228 (by decide +kernel) (by decide) (by decide) (by decide) (by decide)
              refine gx_call0 rfl rfl g228 rfl rfl r240 rfl ?_
              have k141 : ai_hv t240 400 1 = some (.inl 1) := (e240 400 1 (by first | decide | omega)).trans k228
              show en_ex _ _ _ _ (70, [(0, gx_r 383), (1, .inl 1), (2, .inl b)], [], t240, n, 0) _
              refine ex_go (S := (71, [(0, gx_r 383), (1, .inl 1), (2, .inl b)], [gx_r 383], t240, n, 0)) rfl (fun _ => rfl) rfl ?_
              refine ex_go (S := (72, [(0, gx_r 383), (1, .inl 1), (2, .inl b)], [.inl b, gx_r 383], t240, n, 0)) rfl (fun _ => rfl) rfl ?_
              by_cases hc142 : b = 0
              · refine gx_1t (c := .eq) rfl (by first | decide | omega) hc142 rfl ?_
                refine ex_go (S := (80, [(0, gx_r 383), (1, .inl 1), (2, .inl b)], [gx_r 383, gx_r 383], t240, n, 0)) rfl (fun _ => rfl) rfl ?_
                have k143 := (e240 383 26 (by first | decide | omega)).trans ((e228 383 26 (by first | decide | omega)).trans ((e121 383 26 (by first | decide | omega)).trans (h3)))
                refine gx_get rfl g240 rfl k143 rfl ?_
                refine gx_put rfl g240 rfl rfl (ai_in_h (by first | decide | omega) (by first | decide | omega) (by first | decide | omega)) rfl (fun t244 g244 k244 e244 => ?_)
                have k145 : ai_hv t244 400 1 = some (.inl 1) := (e244 400 1 (by first | decide | omega)).trans k141
                refine ex_go (S := (87, [(0, gx_r 383), (1, .inl 1), (2, .inl b)], [.inl 1], t244, n, 0)) rfl (fun _ => rfl) rfl ?_
                refine ex_ret (r := (some (.inl 1), t244, n, 0)) rfl (fun _ => rfl) ?_
                omega
              · refine gx_1f (c := .eq) rfl (by first | decide | omega) hc142 rfl ?_
                refine ex_go (S := (76, [(0, gx_r 383), (1, .inl 1), (2, .inl b)], [.inl 0, gx_r 383], t240, n, 0)) rfl (fun _ => rfl) rfl ?_
                refine ex_go (S := (83, [(0, gx_r 383), (1, .inl 1), (2, .inl b)], [.inl 0, gx_r 383], t240, n, 0)) rfl (fun _ => rfl) rfl ?_
                refine gx_put rfl g240 rfl rfl (ai_in_h (by first | decide | omega) (by first | decide | omega) (by first | decide | omega)) rfl (fun t246 g246 k246 e246 => ?_)
                have k147 : ai_hv t246 400 1 = some (.inl 1) := (e246 400 1 (by first | decide | omega)).trans k141
                refine ex_go (S := (87, [(0, gx_r 383), (1, .inl 1), (2, .inl b)], [.inl 1], t246, n, 0)) rfl (fun _ => rfl) rfl ?_
                refine ex_ret (r := (some (.inl 1), t246, n, 0)) rfl (fun _ => rfl) ?_
                have h399 : ∀ i, ai_hv t246 399 i = if 0 ≤ i ∧ i < 0 + 45 then ai_hv t0 399 (i - 0 + 90) else ai_hv t0 399 i := fun i => by
                  refine (e246 399 i (by first | decide | omega)).trans ?_
                  rw [y240]
                  by_cases c9 : 0 ≤ i ∧ i < 0 + 45
                  · rw [if_pos c9, if_pos c9]; exact (e228 399 _ (by first | decide | omega)).trans (e121 399 _ (by first | decide | omega))
                  · rw [if_neg c9, if_neg c9]; exact (e228 399 i (by first | decide | omega)).trans (e121 399 i (by first | decide | omega))
                have hot : ∀ c i, c ≠ 399 → ¬ (c = 383 ∧ (i = 0 ∨ i = 26)) → ¬ (c = 400 ∧ i = 1) → ai_hv t246 c i = ai_hv t0 c i := fun c i h8 h9 h10 => (e246 c i (by first | decide | omega)).trans ((e240 c i (by first | decide | omega)).trans ((e228 c i (by first | decide | omega)).trans (e121 c i (by first | decide | omega))))
                have hfr : (∀ c i, ¬ ((c = 399 ∧ i < 225) ∨ (c = 383 ∧ (i = 0 ∨ i = 26)) ∨ c = 400) → ai_hv t246 c i = ai_hv t0 c i) := fun c i h => by
                  by_cases c9 : c = 399
                  · subst c9; rw [h399, if_neg (by first | decide | omega)]
                  · exact hot c i c9 (by first | decide | omega) (by first | decide | omega)
                have hy9 := (h7 1 (by decide)).2 (by first | decide | omega)
                refine ⟨_, rfl, 1, t246, rfl, g246, hfr, (fun z => absurd ⟨by decide, Or.inr (by first | decide | omega)⟩ z), (fun z => by omega), fun _ => ⟨rfl, (fun j hj => ?_), ?_, ⟨k246, fun k hk => absurd hk (Nat.not_lt_zero k)⟩, fun m9 hm9 => ?_⟩⟩
                · rw [h399, if_pos (by first | decide | omega), show 0 + j - 0 + 90 = 45 * (1 + 1) + j by omega]; exact hy9.1 j hj
                · rw [h399, if_pos (by decide)]; exact hy9.2
                · refine ⟨?_, fun z => ⟨fun j hj => by
                    rw [h399, if_neg (by first | decide | omega)]; exact ((h7 m9 hm9).2 z).1 j hj, by
                    rw [h399, if_neg (by first | decide | omega)]; exact ((h7 m9 hm9).2 z).2⟩⟩
                  by_cases e9 : m9 = 1
                  · subst e9
                    rw [show F 1 = 1 by omega]; exact k147
                  · exact (hot _ _ (by decide) (by first | decide | omega) (by first | decide | omega)).trans (h7 m9 hm9).1
        · refine ex_go (S := (30, [(0, gx_r 383), (1, .inl 2), (2, .inl b)], [gx_r 383], t121, n, 0)) rfl (fun _ => rfl) rfl ?_
          refine gx_ref (c := 400) rfl g121 rfl rfl rfl rfl ?_
          refine ex_go (S := (34, [(0, gx_r 383), (1, .inl 2), (2, .inl b)], [.inl 2, gx_r 400], t121, n, 0)) rfl (fun _ => rfl) rfl ?_
          refine ex_go (S := (35, [(0, gx_r 383), (1, .inl 2), (2, .inl b)], [.inl 1, .inl 2, gx_r 400], t121, n, 0)) rfl (fun _ => rfl) rfl ?_
          refine gx_apv (d := 2) rfl (fun _ => rfl) g121 rfl rfl rfl (show 2 < 4 from by omega) rfl (ai_in_h (by first | decide | omega) (by first | decide | omega) (by first | decide | omega)) rfl (fun t248 g248 k248 e248 => ?_)
          refine ex_go (S := (37, [(0, gx_r 383), (1, .inl 2), (2, .inl b)], [gx_r 383], t248, n, 0)) rfl (fun _ => rfl) rfl ?_
          refine ex_go (S := (38, [(0, gx_r 383), (1, .inl 2), (2, .inl b)], [.inl b, gx_r 383], t248, n, 0)) rfl (fun _ => rfl) rfl ?_
          by_cases hc149 : b = 0
          · refine gx_1t (c := .eq) rfl (by first | decide | omega) hc149 rfl ?_
            refine ex_go (S := (51, [(0, gx_r 383), (1, .inl 2), (2, .inl b)], [.inl 0, gx_r 383], t248, n, 0)) rfl (fun _ => rfl) rfl ?_
            refine ex_go (S := (52, [(0, gx_r 383), (1, .inl 2), (2, .inl b)], [.inl b, .inl 0, gx_r 383], t248, n, 0)) rfl (fun _ => rfl) rfl ?_
            by_cases hc150 : b = 0
            · refine gx_1t (c := .eq) rfl (by first | decide | omega) hc150 rfl ?_
              refine ex_go (S := (61, [(0, gx_r 383), (1, .inl 2), (2, .inl b)], [.inl 45, .inl 0, gx_r 383], t248, n, 0)) rfl (fun _ => rfl) rfl ?_
              refine ex_go (S := (62, [(0, gx_r 383), (1, .inl 2), (2, .inl b)], [.inl 1, .inl 45, .inl 0, gx_r 383], t248, n, 0)) rfl (fun _ => rfl) rfl ?_
              refine ex_go (S := (63, [(0, gx_r 383), (1, .inl 2), (2, .inl b)], [.inl 2, .inl 1, .inl 45, .inl 0, gx_r 383], t248, n, 0)) rfl (fun _ => rfl) rfl ?_
              refine ex_go (S := (64, [(0, gx_r 383), (1, .inl 2), (2, .inl b)], [.inl 3, .inl 45, .inl 0, gx_r 383], t248, n, 0)) rfl (fun _ => rfl) rfl ?_
              refine ex_go (S := (65, [(0, gx_r 383), (1, .inl 2), (2, .inl b)], [.inl 135, .inl 0, gx_r 383], t248, n, 0)) rfl (fun _ => rfl) rfl ?_
              refine ex_go (S := (67, [(0, gx_r 383), (1, .inl 2), (2, .inl b)], [.inl 45, .inl 135, .inl 0, gx_r 383], t248, n, 0)) rfl (fun _ => rfl) rfl ?_
              obtain ⟨_, r251, t251, rfl, g251, e251, y251⟩ := pe_copies d n (f := 0) (t := 135) (m := 45) g248 (by decide +kernel) (by decide) (by decide) (by decide) (by decide)
              refine gx_call0 rfl rfl g248 rfl rfl r251 rfl ?_
              have k152 : ai_hv t251 400 2 = some (.inl 1) := (e251 400 2 (by first | decide | omega)).trans k248
              show en_ex _ _ _ _ (70, [(0, gx_r 383), (1, .inl 2), (2, .inl b)], [], t251, n, 0) _
              refine ex_go (S := (71, [(0, gx_r 383), (1, .inl 2), (2, .inl b)], [gx_r 383], t251, n, 0)) rfl (fun _ => rfl) rfl ?_
              refine ex_go (S := (72, [(0, gx_r 383), (1, .inl 2), (2, .inl b)], [.inl b, gx_r 383], t251, n, 0)) rfl (fun _ => rfl) rfl ?_
              by_cases hc153 : b = 0
              · refine gx_1t (c := .eq) rfl (by first | decide | omega) hc153 rfl ?_
                refine ex_go (S := (80, [(0, gx_r 383), (1, .inl 2), (2, .inl b)], [gx_r 383, gx_r 383], t251, n, 0)) rfl (fun _ => rfl) rfl ?_
                have k154 := (e251 383 26 (by first | decide | omega)).trans ((e248 383 26 (by first | decide | omega)).trans ((e121 383 26 (by first | decide | omega)).trans (h3)))
                refine gx_get rfl g251 rfl k154 rfl ?_
                refine gx_put rfl g251 rfl rfl (ai_in_h (by first | decide | omega) (by first | decide | omega) (by first | decide | omega)) rfl (fun t255 g255 k255 e255 => ?_)
                have k156 : ai_hv t255 400 2 = some (.inl 1) := (e255 400 2 (by first | decide | omega)).trans k152
                refine ex_go (S := (87, [(0, gx_r 383), (1, .inl 2), (2, .inl b)], [.inl 1], t255, n, 0)) rfl (fun _ => rfl) rfl ?_
                refine ex_ret (r := (some (.inl 1), t255, n, 0)) rfl (fun _ => rfl) ?_
                have h399 : ∀ i, ai_hv t255 399 i = if 135 ≤ i ∧ i < 135 + 45 then ai_hv t0 399 (i - 135 + 0) else ai_hv t0 399 i := fun i => by
                  refine (e255 399 i (by first | decide | omega)).trans ?_
                  rw [y251]
                  by_cases c9 : 135 ≤ i ∧ i < 135 + 45
                  · rw [if_pos c9, if_pos c9]; exact (e248 399 _ (by first | decide | omega)).trans (e121 399 _ (by first | decide | omega))
                  · rw [if_neg c9, if_neg c9]; exact (e248 399 i (by first | decide | omega)).trans (e121 399 i (by first | decide | omega))
                have hot : ∀ c i, c ≠ 399 → ¬ (c = 383 ∧ (i = 0 ∨ i = 26)) → ¬ (c = 400 ∧ i = 2) → ai_hv t255 c i = ai_hv t0 c i := fun c i h8 h9 h10 => (e255 c i (by first | decide | omega)).trans ((e251 c i (by first | decide | omega)).trans ((e248 c i (by first | decide | omega)).trans (e121 c i (by first | decide | omega))))
                have hfr : (∀ c i, ¬ ((c = 399 ∧ i < 225) ∨ (c = 383 ∧ (i = 0 ∨ i = 26)) ∨ c = 400) → ai_hv t255 c i = ai_hv t0 c i) := fun c i h => by
                  by_cases c9 : c = 399
                  · subst c9; rw [h399, if_neg (by first | decide | omega)]
                  · exact hot c i c9 (by first | decide | omega) (by first | decide | omega)
                refine ⟨_, rfl, 1, t255, rfl, g255, hfr, (fun z => absurd ⟨by decide, Or.inl (by first | decide | omega)⟩ z), (fun _ => ⟨rfl, (fun j hj => ?_), ?_, ⟨k255, fun k hk j hj => ?_⟩, fun m9 hm9 => ?_⟩), fun z => by omega⟩
                · rw [h399, if_neg (by first | decide | omega)]; exact h1 j hj
                · rw [h399, if_neg (by decide)]; exact h2
                · rw [h399, if_neg (by first | decide | omega)]; exact h4 k hk j hj
                · by_cases e9 : m9 = 2
                  · subst e9
                    rw [up1_t, up1_t, up1_t]
                    exact ⟨k156, fun _ => ⟨fun j hj => by
                      rw [h399, if_pos (by first | decide | omega), show 45 * (1 + 2) + j - 135 + 0 = 0 + j by omega]; exact h1 j hj, by
                      rw [h399, if_pos (by decide)]; exact h2⟩⟩
                  · rw [up1_f e9, up1_f e9, up1_f e9]
                    exact ⟨(hot _ _ (by decide) (by first | decide | omega) (by first | decide | omega)).trans (h7 m9 hm9).1, fun z => ⟨fun j hj => by
                      rw [h399, if_neg (by first | decide | omega)]; exact ((h7 m9 hm9).2 z).1 j hj, by
                      rw [h399, if_neg (by first | decide | omega)]; exact ((h7 m9 hm9).2 z).2⟩⟩
              · refine gx_1f (c := .eq) rfl (by first | decide | omega) hc153 rfl ?_
                refine ex_go (S := (76, [(0, gx_r 383), (1, .inl 2), (2, .inl b)], [.inl 0, gx_r 383], t251, n, 0)) rfl (fun _ => rfl) rfl ?_
                refine ex_go (S := (83, [(0, gx_r 383), (1, .inl 2), (2, .inl b)], [.inl 0, gx_r 383], t251, n, 0)) rfl (fun _ => rfl) rfl ?_
                refine gx_put rfl g251 rfl rfl (ai_in_h (by first | decide | omega) (by first | decide | omega) (by first | decide | omega)) rfl (fun t257 g257 k257 e257 => ?_)
                have k158 : ai_hv t257 400 2 = some (.inl 1) := (e257 400 2 (by first | decide | omega)).trans k152
                refine ex_go (S := (87, [(0, gx_r 383), (1, .inl 2), (2, .inl b)], [.inl 1], t257, n, 0)) rfl (fun _ => rfl) rfl ?_
                refine ex_ret (r := (some (.inl 1), t257, n, 0)) rfl (fun _ => rfl) ?_
                omega
            · refine gx_1f (c := .eq) rfl (by first | decide | omega) hc150 rfl ?_
              refine ex_go (S := (56, [(0, gx_r 383), (1, .inl 2), (2, .inl b)], [.inl 0, .inl 0, gx_r 383], t248, n, 0)) rfl (fun _ => rfl) rfl ?_
              refine ex_go (S := (65, [(0, gx_r 383), (1, .inl 2), (2, .inl b)], [.inl 0, .inl 0, gx_r 383], t248, n, 0)) rfl (fun _ => rfl) rfl ?_
              refine ex_go (S := (67, [(0, gx_r 383), (1, .inl 2), (2, .inl b)], [.inl 45, .inl 0, .inl 0, gx_r 383], t248, n, 0)) rfl (fun _ => rfl) rfl ?_
              omega
          · refine gx_1f (c := .eq) rfl (by first | decide | omega) hc149 rfl ?_
            refine ex_go (S := (43, [(0, gx_r 383), (1, .inl 2), (2, .inl b)], [.inl 45, gx_r 383], t248, n, 0)) rfl (fun _ => rfl) rfl ?_
            refine ex_go (S := (44, [(0, gx_r 383), (1, .inl 2), (2, .inl b)], [.inl 1, .inl 45, gx_r 383], t248, n, 0)) rfl (fun _ => rfl) rfl ?_
            refine ex_go (S := (45, [(0, gx_r 383), (1, .inl 2), (2, .inl b)], [.inl 2, .inl 1, .inl 45, gx_r 383], t248, n, 0)) rfl (fun _ => rfl) rfl ?_
            refine ex_go (S := (46, [(0, gx_r 383), (1, .inl 2), (2, .inl b)], [.inl 3, .inl 45, gx_r 383], t248, n, 0)) rfl (fun _ => rfl) rfl ?_
            refine ex_go (S := (47, [(0, gx_r 383), (1, .inl 2), (2, .inl b)], [.inl 135, gx_r 383], t248, n, 0)) rfl (fun _ => rfl) rfl ?_
            refine ex_go (S := (51, [(0, gx_r 383), (1, .inl 2), (2, .inl b)], [.inl 135, gx_r 383], t248, n, 0)) rfl (fun _ => rfl) rfl ?_
            refine ex_go (S := (52, [(0, gx_r 383), (1, .inl 2), (2, .inl b)], [.inl b, .inl 135, gx_r 383], t248, n, 0)) rfl (fun _ => rfl) rfl ?_
            by_cases hc159 : b = 0
            · refine gx_1t (c := .eq) rfl (by first | decide | omega) hc159 rfl ?_
              refine ex_go (S := (61, [(0, gx_r 383), (1, .inl 2), (2, .inl b)], [.inl 45, .inl 135, gx_r 383], t248, n, 0)) rfl (fun _ => rfl) rfl ?_
              refine ex_go (S := (62, [(0, gx_r 383), (1, .inl 2), (2, .inl b)], [.inl 1, .inl 45, .inl 135, gx_r 383], t248, n, 0)) rfl (fun _ => rfl) rfl ?_
              refine ex_go (S := (63, [(0, gx_r 383), (1, .inl 2), (2, .inl b)], [.inl 2, .inl 1, .inl 45, .inl 135, gx_r 383], t248, n, 0)) rfl (fun _ => rfl) rfl ?_
              refine ex_go (S := (64, [(0, gx_r 383), (1, .inl 2), (2, .inl b)], [.inl 3, .inl 45, .inl 135, gx_r 383], t248, n, 0)) rfl (fun _ => rfl) rfl ?_
              refine ex_go (S := (65, [(0, gx_r 383), (1, .inl 2), (2, .inl b)], [.inl 135, .inl 135, gx_r 383], t248, n, 0)) rfl (fun _ => rfl) rfl ?_
              refine ex_go (S := (67, [(0, gx_r 383), (1, .inl 2), (2, .inl b)], [.inl 45, .inl 135, .inl 135, gx_r 383], t248, n, 0)) rfl (fun _ => rfl) rfl ?_
              omega
            · refine gx_1f (c := .eq) rfl (by first | decide | omega) hc159 rfl ?_
              refine ex_go (S := (56, [(0, gx_r 383), (1, .inl 2), (2, .inl b)], [.inl 0, .inl 135, gx_r 383], t248, n, 0)) rfl (fun _ => rfl) rfl ?_
              refine ex_go (S := (65, [(0, gx_r 383), (1, .inl 2), (2, .inl b)], [.inl 0, .inl 135, gx_r 383], t248, n, 0)) rfl (fun _ => rfl) rfl ?_
              refine ex_go (S := (67, [(0, gx_r 383), (1, .inl 2), (2, .inl b)], [.inl 45, .inl 0, .inl 135, gx_r 383], t248, n, 0)) rfl (fun _ => rfl) rfl ?_
              obtain ⟨_, r260, t260, rfl, g260, e260, y260⟩ := pe_copies d n (f := 135) (t := 0) (m := 45) g248 (by decide +kernel) (by decide) (by decide) (by decide) (by decide)
              refine gx_call0 rfl rfl g248 rfl rfl r260 rfl ?_
              have k161 : ai_hv t260 400 2 = some (.inl 1) := (e260 400 2 (by first | decide | omega)).trans k248
              show en_ex _ _ _ _ (70, [(0, gx_r 383), (1, .inl 2), (2, .inl b)], [], t260, n, 0) _
              refine ex_go (S := (71, [(0, gx_r 383), (1, .inl 2), (2, .inl b)], [gx_r 383], t260, n, 0)) rfl (fun _ => rfl) rfl ?_
              refine ex_go (S := (72, [(0, gx_r 383), (1, .inl 2), (2, .inl b)], [.inl b, gx_r 383], t260, n, 0)) rfl (fun _ => rfl) rfl ?_
              by_cases hc162 : b = 0
              · refine gx_1t (c := .eq) rfl (by first | decide | omega) hc162 rfl ?_
                refine ex_go (S := (80, [(0, gx_r 383), (1, .inl 2), (2, .inl b)], [gx_r 383, gx_r 383], t260, n, 0)) rfl (fun _ => rfl) rfl ?_
                have k163 := (e260 383 26 (by first | decide | omega)).trans ((e248 383 26 (by first | decide | omega)).trans ((e121 383 26 (by first | decide | omega)).trans (h3)))
                refine gx_get rfl g260 rfl k163 rfl ?_
                refine gx_put rfl g260 rfl rfl (ai_in_h (by first | decide | omega) (by first | decide | omega) (by first | decide | omega)) rfl (fun t264 g264 k264 e264 => ?_)
                have k165 : ai_hv t264 400 2 = some (.inl 1) := (e264 400 2 (by first | decide | omega)).trans k161
                refine ex_go (S := (87, [(0, gx_r 383), (1, .inl 2), (2, .inl b)], [.inl 1], t264, n, 0)) rfl (fun _ => rfl) rfl ?_
                refine ex_ret (r := (some (.inl 1), t264, n, 0)) rfl (fun _ => rfl) ?_
                omega
              · refine gx_1f (c := .eq) rfl (by first | decide | omega) hc162 rfl ?_
                refine ex_go (S := (76, [(0, gx_r 383), (1, .inl 2), (2, .inl b)], [.inl 0, gx_r 383], t260, n, 0)) rfl (fun _ => rfl) rfl ?_
                refine ex_go (S := (83, [(0, gx_r 383), (1, .inl 2), (2, .inl b)], [.inl 0, gx_r 383], t260, n, 0)) rfl (fun _ => rfl) rfl ?_
                refine gx_put rfl g260 rfl rfl (ai_in_h (by first | decide | omega) (by first | decide | omega) (by first | decide | omega)) rfl (fun t266 g266 k266 e266 => ?_)
                have k167 : ai_hv t266 400 2 = some (.inl 1) := (e266 400 2 (by first | decide | omega)).trans k161
                refine ex_go (S := (87, [(0, gx_r 383), (1, .inl 2), (2, .inl b)], [.inl 1], t266, n, 0)) rfl (fun _ => rfl) rfl ?_
                refine ex_ret (r := (some (.inl 1), t266, n, 0)) rfl (fun _ => rfl) ?_
                have h399 : ∀ i, ai_hv t266 399 i = if 0 ≤ i ∧ i < 0 + 45 then ai_hv t0 399 (i - 0 + 135) else ai_hv t0 399 i := fun i => by
                  refine (e266 399 i (by first | decide | omega)).trans ?_
                  rw [y260]
                  by_cases c9 : 0 ≤ i ∧ i < 0 + 45
                  · rw [if_pos c9, if_pos c9]; exact (e248 399 _ (by first | decide | omega)).trans (e121 399 _ (by first | decide | omega))
                  · rw [if_neg c9, if_neg c9]; exact (e248 399 i (by first | decide | omega)).trans (e121 399 i (by first | decide | omega))
                have hot : ∀ c i, c ≠ 399 → ¬ (c = 383 ∧ (i = 0 ∨ i = 26)) → ¬ (c = 400 ∧ i = 2) → ai_hv t266 c i = ai_hv t0 c i := fun c i h8 h9 h10 => (e266 c i (by first | decide | omega)).trans ((e260 c i (by first | decide | omega)).trans ((e248 c i (by first | decide | omega)).trans (e121 c i (by first | decide | omega))))
                have hfr : (∀ c i, ¬ ((c = 399 ∧ i < 225) ∨ (c = 383 ∧ (i = 0 ∨ i = 26)) ∨ c = 400) → ai_hv t266 c i = ai_hv t0 c i) := fun c i h => by
                  by_cases c9 : c = 399
                  · subst c9; rw [h399, if_neg (by first | decide | omega)]
                  · exact hot c i c9 (by first | decide | omega) (by first | decide | omega)
                have hy9 := (h7 2 (by decide)).2 (by first | decide | omega)
                refine ⟨_, rfl, 1, t266, rfl, g266, hfr, (fun z => absurd ⟨by decide, Or.inr (by first | decide | omega)⟩ z), (fun z => by omega), fun _ => ⟨rfl, (fun j hj => ?_), ?_, ⟨k266, fun k hk => absurd hk (Nat.not_lt_zero k)⟩, fun m9 hm9 => ?_⟩⟩
                · rw [h399, if_pos (by first | decide | omega), show 0 + j - 0 + 135 = 45 * (1 + 2) + j by omega]; exact hy9.1 j hj
                · rw [h399, if_pos (by decide)]; exact hy9.2
                · refine ⟨?_, fun z => ⟨fun j hj => by
                    rw [h399, if_neg (by first | decide | omega)]; exact ((h7 m9 hm9).2 z).1 j hj, by
                    rw [h399, if_neg (by first | decide | omega)]; exact ((h7 m9 hm9).2 z).2⟩⟩
                  by_cases e9 : m9 = 2
                  · subst e9
                    rw [show F 2 = 1 by omega]; exact k167
                  · exact (hot _ _ (by decide) (by first | decide | omega) (by first | decide | omega)).trans (h7 m9 hm9).1
        · refine ex_go (S := (30, [(0, gx_r 383), (1, .inl 3), (2, .inl b)], [gx_r 383], t121, n, 0)) rfl (fun _ => rfl) rfl ?_
          refine gx_ref (c := 400) rfl g121 rfl rfl rfl rfl ?_
          refine ex_go (S := (34, [(0, gx_r 383), (1, .inl 3), (2, .inl b)], [.inl 3, gx_r 400], t121, n, 0)) rfl (fun _ => rfl) rfl ?_
          refine ex_go (S := (35, [(0, gx_r 383), (1, .inl 3), (2, .inl b)], [.inl 1, .inl 3, gx_r 400], t121, n, 0)) rfl (fun _ => rfl) rfl ?_
          refine gx_apv (d := 2) rfl (fun _ => rfl) g121 rfl rfl rfl (show 3 < 4 from by omega) rfl (ai_in_h (by first | decide | omega) (by first | decide | omega) (by first | decide | omega)) rfl (fun t268 g268 k268 e268 => ?_)
          refine ex_go (S := (37, [(0, gx_r 383), (1, .inl 3), (2, .inl b)], [gx_r 383], t268, n, 0)) rfl (fun _ => rfl) rfl ?_
          refine ex_go (S := (38, [(0, gx_r 383), (1, .inl 3), (2, .inl b)], [.inl b, gx_r 383], t268, n, 0)) rfl (fun _ => rfl) rfl ?_
          by_cases hc169 : b = 0
          · refine gx_1t (c := .eq) rfl (by first | decide | omega) hc169 rfl ?_
            refine ex_go (S := (51, [(0, gx_r 383), (1, .inl 3), (2, .inl b)], [.inl 0, gx_r 383], t268, n, 0)) rfl (fun _ => rfl) rfl ?_
            refine ex_go (S := (52, [(0, gx_r 383), (1, .inl 3), (2, .inl b)], [.inl b, .inl 0, gx_r 383], t268, n, 0)) rfl (fun _ => rfl) rfl ?_
            by_cases hc170 : b = 0
            · refine gx_1t (c := .eq) rfl (by first | decide | omega) hc170 rfl ?_
              refine ex_go (S := (61, [(0, gx_r 383), (1, .inl 3), (2, .inl b)], [.inl 45, .inl 0, gx_r 383], t268, n, 0)) rfl (fun _ => rfl) rfl ?_
              refine ex_go (S := (62, [(0, gx_r 383), (1, .inl 3), (2, .inl b)], [.inl 1, .inl 45, .inl 0, gx_r 383], t268, n, 0)) rfl (fun _ => rfl) rfl ?_
              refine ex_go (S := (63, [(0, gx_r 383), (1, .inl 3), (2, .inl b)], [.inl 3, .inl 1, .inl 45, .inl 0, gx_r 383], t268, n, 0)) rfl (fun _ => rfl) rfl ?_
              refine ex_go (S := (64, [(0, gx_r 383), (1, .inl 3), (2, .inl b)], [.inl 4, .inl 45, .inl 0, gx_r 383], t268, n, 0)) rfl (fun _ => rfl) rfl ?_
              refine ex_go (S := (65, [(0, gx_r 383), (1, .inl 3), (2, .inl b)], [.inl 180, .inl 0, gx_r 383], t268, n, 0)) rfl (fun _ => rfl) rfl ?_
              refine ex_go (S := (67, [(0, gx_r 383), (1, .inl 3), (2, .inl b)], [.inl 45, .inl 180, .inl 0, gx_r 383], t268, n, 0)) rfl (fun _ => rfl) rfl ?_
              obtain ⟨_, r271, t271, rfl, g271, e271, y271⟩ := pe_copies d n (f := 0) (t := 180) (m := 45) g268 (by decide +kernel) (by decide) (by decide) (by decide) (by decide)
              refine gx_call0 rfl rfl g268 rfl rfl r271 rfl ?_
              have k172 : ai_hv t271 400 3 = some (.inl 1) := (e271 400 3 (by first | decide | omega)).trans k268
              show en_ex _ _ _ _ (70, [(0, gx_r 383), (1, .inl 3), (2, .inl b)], [], t271, n, 0) _
              refine ex_go (S := (71, [(0, gx_r 383), (1, .inl 3), (2, .inl b)], [gx_r 383], t271, n, 0)) rfl (fun _ => rfl) rfl ?_
              refine ex_go (S := (72, [(0, gx_r 383), (1, .inl 3), (2, .inl b)], [.inl b, gx_r 383], t271, n, 0)) rfl (fun _ => rfl) rfl ?_
              by_cases hc173 : b = 0
              · refine gx_1t (c := .eq) rfl (by first | decide | omega) hc173 rfl ?_
                refine ex_go (S := (80, [(0, gx_r 383), (1, .inl 3), (2, .inl b)], [gx_r 383, gx_r 383], t271, n, 0)) rfl (fun _ => rfl) rfl ?_
                have k174 := (e271 383 26 (by first | decide | omega)).trans ((e268 383 26 (by first | decide | omega)).trans ((e121 383 26 (by first | decide | omega)).trans (h3)))
                refine gx_get rfl g271 rfl k174 rfl ?_
                refine gx_put rfl g271 rfl rfl (ai_in_h (by first | decide | omega) (by first | decide | omega) (by first | decide | omega)) rfl (fun t275 g275 k275 e275 => ?_)
                have k176 : ai_hv t275 400 3 = some (.inl 1) := (e275 400 3 (by first | decide | omega)).trans k172
                refine ex_go (S := (87, [(0, gx_r 383), (1, .inl 3), (2, .inl b)], [.inl 1], t275, n, 0)) rfl (fun _ => rfl) rfl ?_
                refine ex_ret (r := (some (.inl 1), t275, n, 0)) rfl (fun _ => rfl) ?_
                have h399 : ∀ i, ai_hv t275 399 i = if 180 ≤ i ∧ i < 180 + 45 then ai_hv t0 399 (i - 180 + 0) else ai_hv t0 399 i := fun i => by
                  refine (e275 399 i (by first | decide | omega)).trans ?_
                  rw [y271]
                  by_cases c9 : 180 ≤ i ∧ i < 180 + 45
                  · rw [if_pos c9, if_pos c9]; exact (e268 399 _ (by first | decide | omega)).trans (e121 399 _ (by first | decide | omega))
                  · rw [if_neg c9, if_neg c9]; exact (e268 399 i (by first | decide | omega)).trans (e121 399 i (by first | decide | omega))
                have hot : ∀ c i, c ≠ 399 → ¬ (c = 383 ∧ (i = 0 ∨ i = 26)) → ¬ (c = 400 ∧ i = 3) → ai_hv t275 c i = ai_hv t0 c i := fun c i h8 h9 h10 => (e275 c i (by first | decide | omega)).trans ((e271 c i (by first | decide | omega)).trans ((e268 c i (by first | decide | omega)).trans (e121 c i (by first | decide | omega))))
                have hfr : (∀ c i, ¬ ((c = 399 ∧ i < 225) ∨ (c = 383 ∧ (i = 0 ∨ i = 26)) ∨ c = 400) → ai_hv t275 c i = ai_hv t0 c i) := fun c i h => by
                  by_cases c9 : c = 399
                  · subst c9; rw [h399, if_neg (by first | decide | omega)]
                  · exact hot c i c9 (by first | decide | omega) (by first | decide | omega)
                refine ⟨_, rfl, 1, t275, rfl, g275, hfr, (fun z => absurd ⟨by decide, Or.inl (by first | decide | omega)⟩ z), (fun _ => ⟨rfl, (fun j hj => ?_), ?_, ⟨k275, fun k hk j hj => ?_⟩, fun m9 hm9 => ?_⟩), fun z => by omega⟩
                · rw [h399, if_neg (by first | decide | omega)]; exact h1 j hj
                · rw [h399, if_neg (by decide)]; exact h2
                · rw [h399, if_neg (by first | decide | omega)]; exact h4 k hk j hj
                · by_cases e9 : m9 = 3
                  · subst e9
                    rw [up1_t, up1_t, up1_t]
                    exact ⟨k176, fun _ => ⟨fun j hj => by
                      rw [h399, if_pos (by first | decide | omega), show 45 * (1 + 3) + j - 180 + 0 = 0 + j by omega]; exact h1 j hj, by
                      rw [h399, if_pos (by decide)]; exact h2⟩⟩
                  · rw [up1_f e9, up1_f e9, up1_f e9]
                    exact ⟨(hot _ _ (by decide) (by first | decide | omega) (by first | decide | omega)).trans (h7 m9 hm9).1, fun z => ⟨fun j hj => by
                      rw [h399, if_neg (by first | decide | omega)]; exact ((h7 m9 hm9).2 z).1 j hj, by
                      rw [h399, if_neg (by first | decide | omega)]; exact ((h7 m9 hm9).2 z).2⟩⟩
              · refine gx_1f (c := .eq) rfl (by first | decide | omega) hc173 rfl ?_
                refine ex_go (S := (76, [(0, gx_r 383), (1, .inl 3), (2, .inl b)], [.inl 0, gx_r 383], t271, n, 0)) rfl (fun _ => rfl) rfl ?_
                refine ex_go (S := (83, [(0, gx_r 383), (1, .inl 3), (2, .inl b)], [.inl 0, gx_r 383], t271, n, 0)) rfl (fun _ => rfl) rfl ?_
                refine gx_put rfl g271 rfl rfl (ai_in_h (by first | decide | omega) (by first | decide | omega) (by first | decide | omega)) rfl (fun t277 g277 k277 e277 => ?_)
                have k178 : ai_hv t277 400 3 = some (.inl 1) := (e277 400 3 (by first | decide | omega)).trans k172
                refine ex_go (S := (87, [(0, gx_r 383), (1, .inl 3), (2, .inl b)], [.inl 1], t277, n, 0)) rfl (fun _ => rfl) rfl ?_
                refine ex_ret (r := (some (.inl 1), t277, n, 0)) rfl (fun _ => rfl) ?_
                omega
            · refine gx_1f (c := .eq) rfl (by first | decide | omega) hc170 rfl ?_
              refine ex_go (S := (56, [(0, gx_r 383), (1, .inl 3), (2, .inl b)], [.inl 0, .inl 0, gx_r 383], t268, n, 0)) rfl (fun _ => rfl) rfl ?_
              refine ex_go (S := (65, [(0, gx_r 383), (1, .inl 3), (2, .inl b)], [.inl 0, .inl 0, gx_r 383], t268, n, 0)) rfl (fun _ => rfl) rfl ?_
              refine ex_go (S := (67, [(0, gx_r 383), (1, .inl 3), (2, .inl b)], [.inl 45, .inl 0, .inl 0, gx_r 383], t268, n, 0)) rfl (fun _ => rfl) rfl ?_
              omega
          · refine gx_1f (c := .eq) rfl (by first | decide | omega) hc169 rfl ?_
            refine ex_go (S := (43, [(0, gx_r 383), (1, .inl 3), (2, .inl b)], [.inl 45, gx_r 383], t268, n, 0)) rfl (fun _ => rfl) rfl ?_
            refine ex_go (S := (44, [(0, gx_r 383), (1, .inl 3), (2, .inl b)], [.inl 1, .inl 45, gx_r 383], t268, n, 0)) rfl (fun _ => rfl) rfl ?_
            refine ex_go (S := (45, [(0, gx_r 383), (1, .inl 3), (2, .inl b)], [.inl 3, .inl 1, .inl 45, gx_r 383], t268, n, 0)) rfl (fun _ => rfl) rfl ?_
            refine ex_go (S := (46, [(0, gx_r 383), (1, .inl 3), (2, .inl b)], [.inl 4, .inl 45, gx_r 383], t268, n, 0)) rfl (fun _ => rfl) rfl ?_
            refine ex_go (S := (47, [(0, gx_r 383), (1, .inl 3), (2, .inl b)], [.inl 180, gx_r 383], t268, n, 0)) rfl (fun _ => rfl) rfl ?_
            refine ex_go (S := (51, [(0, gx_r 383), (1, .inl 3), (2, .inl b)], [.inl 180, gx_r 383], t268, n, 0)) rfl (fun _ => rfl) rfl ?_
            refine ex_go (S := (52, [(0, gx_r 383), (1, .inl 3), (2, .inl b)], [.inl b, .inl 180, gx_r 383], t268, n, 0)) rfl (fun _ => rfl) rfl ?_
            by_cases hc179 : b = 0
            · refine gx_1t (c := .eq) rfl (by first | decide | omega) hc179 rfl ?_
              refine ex_go (S := (61, [(0, gx_r 383), (1, .inl 3), (2, .inl b)], [.inl 45, .inl 180, gx_r 383], t268, n, 0)) rfl (fun _ => rfl) rfl ?_
              refine ex_go (S := (62, [(0, gx_r 383), (1, .inl 3), (2, .inl b)], [.inl 1, .inl 45, .inl 180, gx_r 383], t268, n, 0)) rfl (fun _ => rfl) rfl ?_
              refine ex_go (S := (63, [(0, gx_r 383), (1, .inl 3), (2, .inl b)], [.inl 3, .inl 1, .inl 45, .inl 180, gx_r 383], t268, n, 0)) rfl (fun _ => rfl) rfl ?_
              refine ex_go (S := (64, [(0, gx_r 383), (1, .inl 3), (2, .inl b)], [.inl 4, .inl 45, .inl 180, gx_r 383], t268, n, 0)) rfl (fun _ => rfl) rfl ?_
              refine ex_go (S := (65, [(0, gx_r 383), (1, .inl 3), (2, .inl b)], [.inl 180, .inl 180, gx_r 383], t268, n, 0)) rfl (fun _ => rfl) rfl ?_
              refine ex_go (S := (67, [(0, gx_r 383), (1, .inl 3), (2, .inl b)], [.inl 45, .inl 180, .inl 180, gx_r 383], t268, n, 0)) rfl (fun _ => rfl) rfl ?_
              omega
            · refine gx_1f (c := .eq) rfl (by first | decide | omega) hc179 rfl ?_
              refine ex_go (S := (56, [(0, gx_r 383), (1, .inl 3), (2, .inl b)], [.inl 0, .inl 180, gx_r 383], t268, n, 0)) rfl (fun _ => rfl) rfl ?_
              refine ex_go (S := (65, [(0, gx_r 383), (1, .inl 3), (2, .inl b)], [.inl 0, .inl 180, gx_r 383], t268, n, 0)) rfl (fun _ => rfl) rfl ?_
              refine ex_go (S := (67, [(0, gx_r 383), (1, .inl 3), (2, .inl b)], [.inl 45, .inl 0, .inl 180, gx_r 383], t268, n, 0)) rfl (fun _ => rfl) rfl ?_
              obtain ⟨_, r280, t280, rfl, g280, e280, y280⟩ := pe_copies d n (f := 180) (t := 0) (m := 45) g268 (by decide +kernel) (by decide) (by decide) (by decide) (by decide)
              refine gx_call0 rfl rfl g268 rfl rfl r280 rfl ?_
              have k181 : ai_hv t280 400 3 = some (.inl 1) := (e280 400 3 (by first | decide | omega)).trans k268
              show en_ex _ _ _ _ (70, [(0, gx_r 383), (1, .inl 3), (2, .inl b)], [], t280, n, 0) _
              refine ex_go (S := (71, [(0, gx_r 383), (1, .inl 3), (2, .inl b)], [gx_r 383], t280, n, 0)) rfl (fun _ => rfl) rfl ?_
              refine ex_go (S := (72, [(0, gx_r 383), (1, .inl 3), (2, .inl b)], [.inl b, gx_r 383], t280, n, 0)) rfl (fun _ => rfl) rfl ?_
              by_cases hc182 : b = 0
              · refine gx_1t (c := .eq) rfl (by first | decide | omega) hc182 rfl ?_
                refine ex_go (S := (80, [(0, gx_r 383), (1, .inl 3), (2, .inl b)], [gx_r 383, gx_r 383], t280, n, 0)) rfl (fun _ => rfl) rfl ?_
                have k183 := (e280 383 26 (by first | decide | omega)).trans ((e268 383 26 (by first | decide | omega)).trans ((e121 383 26 (by first | decide | omega)).trans (h3)))
                refine gx_get rfl g280 rfl k183 rfl ?_
                refine gx_put rfl g280 rfl rfl (ai_in_h (by first | decide | omega) (by first | decide | omega) (by first | decide | omega)) rfl (fun t284 g284 k284 e284 => ?_)
                have k185 : ai_hv t284 400 3 = some (.inl 1) := (e284 400 3 (by first | decide | omega)).trans k181
                refine ex_go (S := (87, [(0, gx_r 383), (1, .inl 3), (2, .inl b)], [.inl 1], t284, n, 0)) rfl (fun _ => rfl) rfl ?_
                refine ex_ret (r := (some (.inl 1), t284, n, 0)) rfl (fun _ => rfl) ?_
                omega
              · refine gx_1f (c := .eq) rfl (by first | decide | omega) hc182 rfl ?_
                refine ex_go (S := (76, [(0, gx_r 383), (1, .inl 3), (2, .inl b)], [.inl 0, gx_r 383], t280, n, 0)) rfl (fun _ => rfl) rfl ?_
                refine ex_go (S := (83, [(0, gx_r 383), (1, .inl 3), (2, .inl b)], [.inl 0, gx_r 383], t280, n, 0)) rfl (fun _ => rfl) rfl ?_
                refine gx_put rfl g280 rfl rfl (ai_in_h (by first | decide | omega) (by first | decide | omega) (by first | decide | omega)) rfl (fun t286 g286 k286 e286 => ?_)
                have k187 : ai_hv t286 400 3 = some (.inl 1) := (e286 400 3 (by first | decide | omega)).trans k181
                refine ex_go (S := (87, [(0, gx_r 383), (1, .inl 3), (2, .inl b)], [.inl 1], t286, n, 0)) rfl (fun _ => rfl) rfl ?_
                refine ex_ret (r := (some (.inl 1), t286, n, 0)) rfl (fun _ => rfl) ?_
                have h399 : ∀ i, ai_hv t286 399 i = if 0 ≤ i ∧ i < 0 + 45 then ai_hv t0 399 (i - 0 + 180) else ai_hv t0 399 i := fun i => by
                  refine (e286 399 i (by first | decide | omega)).trans ?_
                  rw [y280]
                  by_cases c9 : 0 ≤ i ∧ i < 0 + 45
                  · rw [if_pos c9, if_pos c9]; exact (e268 399 _ (by first | decide | omega)).trans (e121 399 _ (by first | decide | omega))
                  · rw [if_neg c9, if_neg c9]; exact (e268 399 i (by first | decide | omega)).trans (e121 399 i (by first | decide | omega))
                have hot : ∀ c i, c ≠ 399 → ¬ (c = 383 ∧ (i = 0 ∨ i = 26)) → ¬ (c = 400 ∧ i = 3) → ai_hv t286 c i = ai_hv t0 c i := fun c i h8 h9 h10 => (e286 c i (by first | decide | omega)).trans ((e280 c i (by first | decide | omega)).trans ((e268 c i (by first | decide | omega)).trans (e121 c i (by first | decide | omega))))
                have hfr : (∀ c i, ¬ ((c = 399 ∧ i < 225) ∨ (c = 383 ∧ (i = 0 ∨ i = 26)) ∨ c = 400) → ai_hv t286 c i = ai_hv t0 c i) := fun c i h => by
                  by_cases c9 : c = 399
                  · subst c9; rw [h399, if_neg (by first | decide | omega)]
                  · exact hot c i c9 (by first | decide | omega) (by first | decide | omega)
                have hy9 := (h7 3 (by decide)).2 (by first | decide | omega)
                refine ⟨_, rfl, 1, t286, rfl, g286, hfr, (fun z => absurd ⟨by decide, Or.inr (by first | decide | omega)⟩ z), (fun z => by omega), fun _ => ⟨rfl, (fun j hj => ?_), ?_, ⟨k286, fun k hk => absurd hk (Nat.not_lt_zero k)⟩, fun m9 hm9 => ?_⟩⟩
                · rw [h399, if_pos (by first | decide | omega), show 0 + j - 0 + 180 = 45 * (1 + 3) + j by omega]; exact hy9.1 j hj
                · rw [h399, if_pos (by decide)]; exact hy9.2
                · refine ⟨?_, fun z => ⟨fun j hj => by
                    rw [h399, if_neg (by first | decide | omega)]; exact ((h7 m9 hm9).2 z).1 j hj, by
                    rw [h399, if_neg (by first | decide | omega)]; exact ((h7 m9 hm9).2 z).2⟩⟩
                  by_cases e9 : m9 = 3
                  · subst e9
                    rw [show F 3 = 1 by omega]; exact k187
                  · exact (hot _ _ (by decide) (by first | decide | omega) (by first | decide | omega)).trans (h7 m9 hm9).1
      · refine gx_1f (c := .ne) rfl (by first | decide | omega) hc107 rfl ?_
        refine ex_go (S := (28, [(0, gx_r 383), (1, .inl m), (2, .inl b)], [.inl 0], t121, n, 0)) rfl (fun _ => rfl) rfl ?_
        refine ex_ret (r := (some (.inl 0), t121, n, 0)) rfl (fun _ => rfl) ?_
        exact ⟨_, rfl, 0, t121, rfl, g121, (fun c i h => e121 c i (by first | decide | omega)), (fun _ => ⟨rfl, RS_keep hS0 hu (fun c i h => by unfold RSC at h; exact e121 c i (by first | decide | omega))⟩), (fun z => by omega), fun z => by omega⟩
end SSO
