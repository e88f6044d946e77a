section PKC
noncomputable def gx_pass (fn : en_F) : Prop := (∀ t n, ai_HG ah_G t → ai_E t → ∃ v t', fn 127 [gx_r 383] t n = some (some (.inl v), t', n, 0) ∧ ai_HG ah_G t' ∧ ai_E t' ∧ v ≤ 2 ∧ ∀ c i, ai_hv t' c i = ai_hv t c i) ∧ (∀ t n, ai_HG ah_G t → ai_E t → ∃ v t', fn 138 [gx_r 383] t n = some (some (.inl v), t', n, 0) ∧ ai_HG ah_G t' ∧ ai_E t' ∧ v ≤ 6 ∧ ∀ c i, ai_hv t' c i = ai_hv t c i) ∧ (∀ t n x, ai_HG ah_G t → ai_E t → x ≤ 63 → ∃ v t', fn 131 [gx_r 383, .inl x] t n = some (some (.inl v), t', n, 0) ∧ ai_HG ah_G t' ∧ ai_E t' ∧ v ≤ 63 ∧ ∀ c i, ai_hv t' c i = ai_hv t c i) ∧ (∀ t n c x y, ai_HG ah_G t → ai_E t → c ≤ 1 → x < 4294967296 → y ≤ 1 → ∃ v t', fn 142 [gx_r 383, .inl c, .inl x, .inl y] t n = some (some (.inl v), t', n, 0) ∧ ai_HG ah_G t' ∧ ai_E t' ∧ v ≤ 99 ∧ ∀ c i, ¬ ((c = 397 ∧ i ≤ 3) ∨ (c = 398 ∧ i ≤ 1099)) → ai_hv t' c i = ai_hv t c i)
theorem pl_run_0 {i : Nat} (k : Nat) (hk : k < 6) (e : i = 1 + 1 * k) : ai_run ah_399.2.2.2 i = some (.inl (2147483648, 2147483711)) := gx_at (by decide +kernel) k hk e
set_option maxRecDepth 100000 in
theorem ps_t_0 {fn : en_F} (hp : gx_pass fn) {n : Nat} {tb : en_H} : ∀ j k z cl t0, k + j = 6 → z < 4294967296 → ai_HG ah_G t0 → ai_E t0 → (∀ c i, ¬ ((c = 397 ∧ i ≤ 3) ∨ (c = 398 ∧ i ≤ 1099) ∨ (c = 399 ∧ i ≤ 1034)) → ai_hv t0 c i = ai_hv tb c i) → en_ld cl 0 = some (gx_r 383) → en_ld cl 1 = some (.inl 0) → en_ld cl 2 = some (.inl z) → en_ld cl 3 = some (.inl k) → en_ex none fn (en_code 116) (fun _ => false) (158, cl, [], t0, n, 0) (fun o => ∃ r, o = .inl r ∧ ∃ v t', r = (some (.inl v), t', n, 0) ∧ v < 4294967296 ∧ ai_HG ah_G t' ∧ ai_E t' ∧ (∀ c i, ¬ ((c = 397 ∧ i ≤ 3) ∨ (c = 398 ∧ i ≤ 1099) ∨ (c = 399 ∧ i ≤ 1034)) → ai_hv t' c i = ai_hv tb c i)) := by
  intro j
  induction j with
  | zero =>
    intro k z cl t0 hk hz g0 E0 e0 h0 h1 h2 h3
    refine gx_ld (i := 3) (d := 0) (v := .inl k) rfl (fun _ => rfl) h3 rfl rfl ?_
    refine gx_ld (i := 0) (d := 2) (v := gx_r 383) rfl (fun _ => rfl) h0 rfl rfl ?_
    obtain ⟨v101, t101, r101, g101, E101, vb101, e101⟩ := hp.2.1 t0 n  g0 E0 
    refine gx_call1 rfl rfl g0 rfl rfl r101 rfl ?_
    have f101 : ∀ c i, ¬ (c = 0 ∧ c = 1) → ai_hv t101 c i = ai_hv t0 c i := fun c i _ => e101 c i
    refine gx_2t (c := .ge) rfl (by first | decide | omega) (by first | decide | omega) (show v101 ≤ k from by omega) rfl ?_
    refine gx_ld (i := 0) (d := 2) (v := gx_r 383) rfl (fun _ => rfl) h0 rfl rfl ?_
    refine gx_ref (c := 399) rfl g101 rfl rfl rfl rfl ?_
    refine gx_ld (i := 1) (d := 0) (v := .inl 0) rfl (fun _ => rfl) h1 rfl rfl ?_
    refine ex_go (S := (202, cl, [.inl 0, .inl 0, gx_r 399], t101, n, 0)) rfl (fun _ => rfl) rfl ?_
    refine ex_go (S := (203, cl, [.inl 0, gx_r 399], t101, n, 0)) rfl (fun _ => rfl) rfl ?_
    refine ex_go (S := (204, cl, [.inl 0, gx_r 399, .inl 0, gx_r 399], t101, n, 0)) rfl (fun _ => rfl) rfl ?_
    obtain ⟨m2, k3, m2b⟩ := gx_any (c := 399) (i := 0) g101 rfl rfl rfl
    refine gx_ag (v := .inl m2) (cb := fun c => Nat.beq c 0) rfl (fun _ => rfl) g101 rfl rfl k3 (by first | decide | omega) rfl ?_
    refine ex_go (S := (206, cl, [.inl 1, .inl m2, .inl 0, gx_r 399], t101, n, 0)) rfl (fun _ => rfl) rfl ?_
    refine gx_iaddw rfl rfl (fun z4 z4b => ?_)
    refine gx_ap rfl (fun _ => rfl) g101 rfl rfl rfl (show 0 < 1035 from by omega) rfl (gx_full (by first | decide | omega)) rfl (fun t105 g105 k105 e105 => ?_)
    have E105 := px_E_st E101 e105 (by first | decide | omega) (by first | decide | omega)
    refine gx_ld (i := 2) (d := 0) (v := .inl z) rfl (fun _ => rfl) h2 rfl rfl ?_
    refine ex_ret (r := (some (.inl z), t105, n, 0)) rfl (fun _ => rfl) ?_
    exact ⟨_, rfl, z, t105, rfl, by omega, g105, E105, (fun c i h => (e105 c i (by first | decide | omega)).trans ((f101 c i (by first | decide | omega)).trans (e0 c i h)))⟩
  | succ j ih =>
    intro k z cl t0 hk hz g0 E0 e0 h0 h1 h2 h3
    refine gx_ld (i := 3) (d := 0) (v := .inl k) rfl (fun _ => rfl) h3 rfl rfl ?_
    refine gx_ld (i := 0) (d := 2) (v := gx_r 383) rfl (fun _ => rfl) h0 rfl rfl ?_
    obtain ⟨v101, t101, r101, g101, E101, vb101, e101⟩ := hp.2.1 t0 n  g0 E0 
    refine gx_call1 rfl rfl g0 rfl rfl r101 rfl ?_
    have f101 : ∀ c i, ¬ (c = 0 ∧ c = 1) → ai_hv t101 c i = ai_hv t0 c i := fun c i _ => e101 c i
    by_cases hc2 : v101 ≤ k
    · refine gx_2t (c := .ge) rfl (by first | decide | omega) (by first | decide | omega) hc2 rfl ?_
      refine gx_ld (i := 0) (d := 2) (v := gx_r 383) rfl (fun _ => rfl) h0 rfl rfl ?_
      refine gx_ref (c := 399) rfl g101 rfl rfl rfl rfl ?_
      refine gx_ld (i := 1) (d := 0) (v := .inl 0) rfl (fun _ => rfl) h1 rfl rfl ?_
      refine ex_go (S := (202, cl, [.inl 0, .inl 0, gx_r 399], t101, n, 0)) rfl (fun _ => rfl) rfl ?_
      refine ex_go (S := (203, cl, [.inl 0, gx_r 399], t101, n, 0)) rfl (fun _ => rfl) rfl ?_
      refine ex_go (S := (204, cl, [.inl 0, gx_r 399, .inl 0, gx_r 399], t101, n, 0)) rfl (fun _ => rfl) rfl ?_
      obtain ⟨m3, k4, m3b⟩ := gx_any (c := 399) (i := 0) g101 rfl rfl rfl
      refine gx_ag (v := .inl m3) (cb := fun c => Nat.beq c 0) rfl (fun _ => rfl) g101 rfl rfl k4 (by first | decide | omega) rfl ?_
      refine ex_go (S := (206, cl, [.inl 1, .inl m3, .inl 0, gx_r 399], t101, n, 0)) rfl (fun _ => rfl) rfl ?_
      refine gx_iaddw rfl rfl (fun z5 z5b => ?_)
      refine gx_ap rfl (fun _ => rfl) g101 rfl rfl rfl (show 0 < 1035 from by omega) rfl (gx_full (by first | decide | omega)) rfl (fun t106 g106 k106 e106 => ?_)
      have E106 := px_E_st E101 e106 (by first | decide | omega) (by first | decide | omega)
      refine gx_ld (i := 2) (d := 0) (v := .inl z) rfl (fun _ => rfl) h2 rfl rfl ?_
      refine ex_ret (r := (some (.inl z), t106, n, 0)) rfl (fun _ => rfl) ?_
      exact ⟨_, rfl, z, t106, rfl, by omega, g106, E106, (fun c i h => (e106 c i (by first | decide | omega)).trans ((f101 c i (by first | decide | omega)).trans (e0 c i h)))⟩
    · refine gx_2f (c := .ge) rfl (by first | decide | omega) (by first | decide | omega) hc2 rfl ?_
      refine gx_ld (i := 0) (d := 2) (v := gx_r 383) rfl (fun _ => rfl) h0 rfl rfl ?_
      refine gx_ref (c := 399) rfl g101 rfl rfl rfl rfl ?_
      refine gx_ld (i := 1) (d := 0) (v := .inl 0) rfl (fun _ => rfl) h1 rfl rfl ?_
      refine ex_go (S := (172, cl, [.inl 1, .inl 0, gx_r 399], t101, n, 0)) rfl (fun _ => rfl) rfl ?_
      refine ex_go (S := (173, cl, [.inl 1, gx_r 399], t101, n, 0)) rfl (fun _ => rfl) rfl ?_
      refine gx_ld (i := 3) (d := 0) (v := .inl k) rfl (fun _ => rfl) h3 rfl rfl ?_
      refine ex_iadd rfl (by first | decide | omega) rfl ?_
      refine gx_ld (i := 0) (d := 2) (v := gx_r 383) rfl (fun _ => rfl) h0 rfl rfl ?_
      refine gx_ld (i := 0) (d := 2) (v := gx_r 383) rfl (fun _ => rfl) h0 rfl rfl ?_
      refine gx_ref (c := 399) rfl g101 rfl rfl rfl rfl ?_
      refine gx_ld (i := 1) (d := 0) (v := .inl 0) rfl (fun _ => rfl) h1 rfl rfl ?_
      refine ex_go (S := (182, cl, [.inl 1, .inl 0, gx_r 399, gx_r 383, .inl (1 + k), gx_r 399], t101, n, 0)) rfl (fun _ => rfl) rfl ?_
      refine ex_go (S := (183, cl, [.inl 1, gx_r 399, gx_r 383, .inl (1 + k), gx_r 399], t101, n, 0)) rfl (fun _ => rfl) rfl ?_
      refine gx_ld (i := 3) (d := 0) (v := .inl k) rfl (fun _ => rfl) h3 rfl rfl ?_
      refine ex_iadd rfl (by first | decide | omega) rfl ?_
      obtain ⟨m7, k8, m7l, m7h⟩ := gx_inb (c := 399) (i := 1 + k) (lo := 0) (hi := 63) g101 rfl (show 1 + k < 1035 from by omega) (pl_run_0 k (by first | decide | omega) (by first | decide | omega)) (by decide) (by decide) rfl
      refine gx_ag (v := .inl m7) (cb := fun c => Nat.beq c 0) rfl (fun _ => rfl) g101 rfl rfl k8 (by first | decide | omega) rfl ?_
      obtain ⟨v109, t109, r109, g109, E109, vb109, e109⟩ := hp.2.2.1 t101 n m7 g101 E101 (by first | decide | omega)
      refine gx_call1 rfl rfl g101 rfl rfl r109 rfl ?_
      have f109 : ∀ c i, ¬ (c = 0 ∧ c = 1) → ai_hv t109 c i = ai_hv t101 c i := fun c i _ => e109 c i
      have k10 : ai_hv t109 399 (1 + k) = some (.inl m7) := (f109 399 (1 + k) (by first | decide | omega)).trans k8
      refine gx_ap rfl (fun _ => rfl) g109 rfl rfl rfl (show 1 + k < 1035 from by omega) (pl_run_0 k (by first | decide | omega) (by first | decide | omega)) (ai_in_h (by first | decide | omega) (by first | decide | omega) (by first | decide | omega)) rfl (fun t111 g111 k111 e111 => ?_)
      have E111 := px_E_st E109 e111 (by first | decide | omega) (by first | decide | omega)
      refine gx_incS (i := 3) (a := k) (x := 1) rfl (fun _ => rfl) h3 (by first | decide | omega) rfl (fun l12 hl12 ml12 => ?_)
      have l12_0 : en_ld l12 0 = some (gx_r 383) := ml12 0 _ h0 rfl
      have l12_1 : en_ld l12 1 = some (.inl 0) := ml12 1 _ h1 rfl
      have l12_2 : en_ld l12 2 = some (.inl z) := ml12 2 _ h2 rfl
      refine ex_go (S := (158, l12, [], t111, n, 0)) rfl (fun _ => rfl) rfl ?_
      exact ih (k + 1) z _ t111 (by first | decide | omega) hz g111 E111 (fun c i h => (e111 c i (by first | decide | omega)).trans ((f109 c i (by first | decide | omega)).trans ((f101 c i (by first | decide | omega)).trans (e0 c i h)))) l12_0 l12_1 l12_2 hl12
set_option maxRecDepth 100000 in
theorem ps_c_0_2 {fn : en_F} (hp : gx_pass fn) {n : Nat} {tb : en_H} (z : Nat) (cl : en_L) (t0 : en_H) (hz : z < 4294967296) (g0 : ai_HG ah_G t0) (E0 : ai_E t0) (e0 : (∀ c i, ¬ ((c = 397 ∧ i ≤ 3) ∨ (c = 398 ∧ i ≤ 1099) ∨ (c = 399 ∧ i ≤ 1034)) → ai_hv t0 c i = ai_hv tb c i)) (h0 : en_ld cl 0 = some (gx_r 383)) (h1 : en_ld cl 1 = some (.inl 0)) (h2 : en_ld cl 2 = some (.inl z)) (h3 : en_ld cl 3 = some (.inl 2)) : en_ex none fn (en_code 116) (fun _ => false) (4, cl, [], t0, n, 0) (fun o => ∃ r, o = .inl r ∧ ∃ v t', r = (some (.inl v), t', n, 0) ∧ v < 4294967296 ∧ ai_HG ah_G t' ∧ ai_E t' ∧ (∀ c i, ¬ ((c = 397 ∧ i ≤ 3) ∨ (c = 398 ∧ i ≤ 1099) ∨ (c = 399 ∧ i ≤ 1034)) → ai_hv t' c i = ai_hv tb c i)) := by
  refine gx_ld (i := 3) (d := 0) (v := .inl 2) rfl (fun _ => rfl) h3 rfl rfl ?_
  refine gx_ld (i := 0) (d := 2) (v := gx_r 383) rfl (fun _ => rfl) h0 rfl rfl ?_
  obtain ⟨v101, t101, r101, g101, E101, vb101, e101⟩ := hp.1 t0 n  g0 E0 
  refine gx_call1 rfl rfl g0 rfl rfl r101 rfl ?_
  have f101 : ∀ c i, ¬ (c = 0 ∧ c = 1) → ai_hv t101 c i = ai_hv t0 c i := fun c i _ => e101 c i
  refine gx_2t (c := .ge) rfl (by first | decide | omega) (by first | decide | omega) (show v101 ≤ 2 from by omega) rfl ?_
  refine ex_go (S := (157, cl, [.inl 0], t101, n, 0)) rfl (fun _ => rfl) rfl ?_
  refine gx_sto (i := 3) (d := 0) rfl (fun _ => rfl) rfl rfl (fun l2 hl2 ml2 => ?_)
  have l2_0 : en_ld l2 0 = some (gx_r 383) := ml2 0 _ h0 rfl
  have l2_1 : en_ld l2 1 = some (.inl 0) := ml2 1 _ h1 rfl
  have l2_2 : en_ld l2 2 = some (.inl z) := ml2 2 _ h2 rfl
  exact ps_t_0 hp 6 0 _ _ t101 (by first | decide | omega) (by first | decide | omega) g101 E101 (fun c i h => (f101 c i (by first | decide | omega)).trans (e0 c i h)) l2_0 l2_1 l2_2 hl2
set_option maxRecDepth 100000 in
theorem ps_c_0_1 {fn : en_F} (hp : gx_pass fn) {n : Nat} {tb : en_H} (z : Nat) (cl : en_L) (t0 : en_H) (hz : z < 4294967296) (g0 : ai_HG ah_G t0) (E0 : ai_E t0) (e0 : (∀ c i, ¬ ((c = 397 ∧ i ≤ 3) ∨ (c = 398 ∧ i ≤ 1099) ∨ (c = 399 ∧ i ≤ 1034)) → ai_hv t0 c i = ai_hv tb c i)) (h0 : en_ld cl 0 = some (gx_r 383)) (h1 : en_ld cl 1 = some (.inl 0)) (h2 : en_ld cl 2 = some (.inl z)) (h3 : en_ld cl 3 = some (.inl 1)) : en_ex none fn (en_code 116) (fun _ => false) (4, cl, [], t0, n, 0) (fun o => ∃ r, o = .inl r ∧ ∃ v t', r = (some (.inl v), t', n, 0) ∧ v < 4294967296 ∧ ai_HG ah_G t' ∧ ai_E t' ∧ (∀ c i, ¬ ((c = 397 ∧ i ≤ 3) ∨ (c = 398 ∧ i ≤ 1099) ∨ (c = 399 ∧ i ≤ 1034)) → ai_hv t' c i = ai_hv tb c i)) := by
  refine gx_ld (i := 3) (d := 0) (v := .inl 1) rfl (fun _ => rfl) h3 rfl rfl ?_
  refine gx_ld (i := 0) (d := 2) (v := gx_r 383) rfl (fun _ => rfl) h0 rfl rfl ?_
  obtain ⟨v101, t101, r101, g101, E101, vb101, e101⟩ := hp.1 t0 n  g0 E0 
  refine gx_call1 rfl rfl g0 rfl rfl r101 rfl ?_
  have f101 : ∀ c i, ¬ (c = 0 ∧ c = 1) → ai_hv t101 c i = ai_hv t0 c i := fun c i _ => e101 c i
  by_cases hc2 : v101 ≤ 1
  · refine gx_2t (c := .ge) rfl (by first | decide | omega) (by first | decide | omega) hc2 rfl ?_
    refine ex_go (S := (157, cl, [.inl 0], t101, n, 0)) rfl (fun _ => rfl) rfl ?_
    refine gx_sto (i := 3) (d := 0) rfl (fun _ => rfl) rfl rfl (fun l3 hl3 ml3 => ?_)
    have l3_0 : en_ld l3 0 = some (gx_r 383) := ml3 0 _ h0 rfl
    have l3_1 : en_ld l3 1 = some (.inl 0) := ml3 1 _ h1 rfl
    have l3_2 : en_ld l3 2 = some (.inl z) := ml3 2 _ h2 rfl
    exact ps_t_0 hp 6 0 _ _ t101 (by first | decide | omega) (by first | decide | omega) g101 E101 (fun c i h => (f101 c i (by first | decide | omega)).trans (e0 c i h)) l3_0 l3_1 l3_2 hl3
  · refine gx_2f (c := .ge) rfl (by first | decide | omega) (by first | decide | omega) hc2 rfl ?_
    refine gx_ld (i := 0) (d := 2) (v := gx_r 383) rfl (fun _ => rfl) h0 rfl rfl ?_
    refine gx_ref (c := 399) rfl g101 rfl rfl rfl rfl ?_
    refine gx_ld (i := 1) (d := 0) (v := .inl 0) rfl (fun _ => rfl) h1 rfl rfl ?_
    refine ex_go (S := (19, cl, [.inl 15, .inl 0, gx_r 399], t101, n, 0)) rfl (fun _ => rfl) rfl ?_
    refine ex_go (S := (20, cl, [.inl 15, gx_r 399], t101, n, 0)) rfl (fun _ => rfl) rfl ?_
    refine gx_ld (i := 3) (d := 0) (v := .inl 1) rfl (fun _ => rfl) h3 rfl rfl ?_
    refine ex_go (S := (22, cl, [.inl 16, gx_r 399], t101, n, 0)) rfl (fun _ => rfl) rfl ?_
    refine ex_go (S := (23, cl, [.inl 0, .inl 16, gx_r 399], t101, n, 0)) rfl (fun _ => rfl) rfl ?_
    refine gx_ap rfl (fun _ => rfl) g101 rfl rfl rfl (show 16 < 1035 from by omega) rfl (ai_in_h (by first | decide | omega) (by first | decide | omega) (by first | decide | omega)) rfl (fun t104 g104 k104 e104 => ?_)
    have E104 := px_E_st E101 e104 (by first | decide | omega) (by first | decide | omega)
    refine gx_ld (i := 0) (d := 2) (v := gx_r 383) rfl (fun _ => rfl) h0 rfl rfl ?_
    refine gx_ld (i := 3) (d := 0) (v := .inl 1) rfl (fun _ => rfl) h3 rfl rfl ?_
    refine gx_ld (i := 0) (d := 2) (v := gx_r 383) rfl (fun _ => rfl) h0 rfl rfl ?_
    refine gx_ref (c := 399) rfl g104 rfl rfl rfl rfl ?_
    refine gx_ld (i := 1) (d := 0) (v := .inl 0) rfl (fun _ => rfl) h1 rfl rfl ?_
    refine ex_go (S := (32, cl, [.inl 0, .inl 0, gx_r 399, .inl 1, gx_r 383], t104, n, 0)) rfl (fun _ => rfl) rfl ?_
    refine ex_go (S := (33, cl, [.inl 0, gx_r 399, .inl 1, gx_r 383], t104, n, 0)) rfl (fun _ => rfl) rfl ?_
    obtain ⟨m5, k6, m5b⟩ := gx_any (c := 399) (i := 0) g104 rfl rfl rfl
    refine gx_ag (v := .inl m5) (cb := fun c => Nat.beq c 0) rfl (fun _ => rfl) g104 rfl rfl k6 (by first | decide | omega) rfl ?_
    refine gx_ld (i := 0) (d := 2) (v := gx_r 383) rfl (fun _ => rfl) h0 rfl rfl ?_
    refine gx_ref (c := 399) rfl g104 rfl rfl rfl rfl ?_
    refine gx_ld (i := 1) (d := 0) (v := .inl 0) rfl (fun _ => rfl) h1 rfl rfl ?_
    refine ex_go (S := (41, cl, [.inl 11, .inl 0, gx_r 399, .inl m5, .inl 1, gx_r 383], t104, n, 0)) rfl (fun _ => rfl) rfl ?_
    refine ex_go (S := (42, cl, [.inl 11, gx_r 399, .inl m5, .inl 1, gx_r 383], t104, n, 0)) rfl (fun _ => rfl) rfl ?_
    refine gx_ld (i := 3) (d := 0) (v := .inl 1) rfl (fun _ => rfl) h3 rfl rfl ?_
    refine ex_go (S := (44, cl, [.inl 12, gx_r 399, .inl m5, .inl 1, gx_r 383], t104, n, 0)) rfl (fun _ => rfl) rfl ?_
    obtain ⟨m7, k8, m7l, m7h⟩ := gx_in (c := 399) (i := 12) (lo := 0) (hi := 1) g104 rfl rfl rfl rfl
    refine gx_ag (v := .inl m7) (cb := fun c => Nat.beq c 0) rfl (fun _ => rfl) g104 rfl rfl k8 (by first | decide | omega) rfl ?_
    obtain ⟨v109, t109, r109, g109, E109, vb109, e109⟩ := hp.2.2.2 t104 n 1 m5 m7 g104 E104 (by first | decide | omega) (by first | decide | omega) (by first | decide | omega)
    refine gx_call1 rfl rfl g104 rfl rfl r109 rfl ?_
    have k10 : ai_hv t109 399 16 = some (.inl 0) := (e109 399 16 (by first | decide | omega)).trans k104
    have k11 : ai_hv t109 399 0 = some (.inl m5) := (e109 399 0 (by first | decide | omega)).trans k6
    have k12 : ai_hv t109 399 12 = some (.inl m7) := (e109 399 12 (by first | decide | omega)).trans k8
    refine gx_sto (i := 4) (d := 0) rfl (fun _ => rfl) rfl rfl (fun l13 hl13 ml13 => ?_)
    have l13_0 : en_ld l13 0 = some (gx_r 383) := ml13 0 _ h0 rfl
    have l13_1 : en_ld l13 1 = some (.inl 0) := ml13 1 _ h1 rfl
    have l13_2 : en_ld l13 2 = some (.inl z) := ml13 2 _ h2 rfl
    have l13_3 : en_ld l13 3 = some (.inl 1) := ml13 3 _ h3 rfl
    refine gx_ld (i := 4) (d := 0) (v := .inl v109) rfl (fun _ => rfl) hl13 rfl rfl ?_
    refine gx_ld (i := 0) (d := 2) (v := gx_r 383) rfl (fun _ => rfl) l13_0 rfl rfl ?_
    refine gx_ref (c := 399) rfl g109 rfl rfl rfl rfl ?_
    refine gx_ld (i := 1) (d := 0) (v := .inl 0) rfl (fun _ => rfl) l13_1 rfl rfl ?_
    refine ex_go (S := (59, l13, [.inl 7, .inl 0, gx_r 399, .inl v109], t109, n, 0)) rfl (fun _ => rfl) rfl ?_
    refine ex_go (S := (60, l13, [.inl 7, gx_r 399, .inl v109], t109, n, 0)) rfl (fun _ => rfl) rfl ?_
    refine gx_ld (i := 3) (d := 0) (v := .inl 1) rfl (fun _ => rfl) l13_3 rfl rfl ?_
    refine ex_go (S := (62, l13, [.inl 8, gx_r 399, .inl v109], t109, n, 0)) rfl (fun _ => rfl) rfl ?_
    obtain ⟨m14, k15, m14l, m14h⟩ := gx_in (c := 399) (i := 8) (lo := 0) (hi := 19998) g109 rfl rfl rfl rfl
    refine gx_ag (v := .inl m14) (cb := fun c => Nat.beq c 0) rfl (fun _ => rfl) g109 rfl rfl k15 (by first | decide | omega) rfl ?_
    by_cases hc16 : v109 ≤ m14
    · refine gx_2t (c := .le) rfl (by first | decide | omega) (by first | decide | omega) hc16 rfl ?_
      refine gx_ld (i := 4) (d := 0) (v := .inl v109) rfl (fun _ => rfl) hl13 rfl rfl ?_
      refine gx_sto (i := 4) (d := 0) rfl (fun _ => rfl) rfl rfl (fun l17 hl17 ml17 => ?_)
      have l17_0 : en_ld l17 0 = some (gx_r 383) := ml17 0 _ l13_0 rfl
      have l17_1 : en_ld l17 1 = some (.inl 0) := ml17 1 _ l13_1 rfl
      have l17_2 : en_ld l17 2 = some (.inl z) := ml17 2 _ l13_2 rfl
      have l17_3 : en_ld l17 3 = some (.inl 1) := ml17 3 _ l13_3 rfl
      refine gx_ld (i := 0) (d := 2) (v := gx_r 383) rfl (fun _ => rfl) l17_0 rfl rfl ?_
      refine gx_ref (c := 399) rfl g109 rfl rfl rfl rfl ?_
      refine gx_ld (i := 1) (d := 0) (v := .inl 0) rfl (fun _ => rfl) l17_1 rfl rfl ?_
      refine ex_go (S := (91, l17, [.inl 7, .inl 0, gx_r 399], t109, n, 0)) rfl (fun _ => rfl) rfl ?_
      refine ex_go (S := (92, l17, [.inl 7, gx_r 399], t109, n, 0)) rfl (fun _ => rfl) rfl ?_
      refine gx_ld (i := 3) (d := 0) (v := .inl 1) rfl (fun _ => rfl) l17_3 rfl rfl ?_
      refine ex_go (S := (94, l17, [.inl 8, gx_r 399], t109, n, 0)) rfl (fun _ => rfl) rfl ?_
      refine ex_go (S := (95, l17, [.inl 8, gx_r 399, .inl 8, gx_r 399], t109, n, 0)) rfl (fun _ => rfl) rfl ?_
      refine gx_ag (v := .inl m14) (cb := fun c => Nat.beq c 0) rfl (fun _ => rfl) g109 rfl rfl k15 (by first | decide | omega) rfl ?_
      refine gx_ld (i := 4) (d := 0) (v := .inl v109) rfl (fun _ => rfl) hl17 rfl rfl ?_
      refine gx_isub rfl (by first | decide | omega) (by first | decide | omega) rfl ?_
      refine gx_ap rfl (fun _ => rfl) g109 rfl rfl rfl (show 8 < 1035 from by omega) rfl (ai_in_h (by first | decide | omega) (by first | decide | omega) (by first | decide | omega)) rfl (fun t118 g118 k118 e118 => ?_)
      have k19 : ai_hv t118 399 16 = some (.inl 0) := (e118 399 16 (by first | decide | omega)).trans k10
      have k20 : ai_hv t118 399 0 = some (.inl m5) := (e118 399 0 (by first | decide | omega)).trans k11
      have k21 : ai_hv t118 399 12 = some (.inl m7) := (e118 399 12 (by first | decide | omega)).trans k12
      have E118 := px_E_bis (b := 0) (y := 8) E109 e118 k15 k118 (by decide) (by first | decide | omega) (by first | decide | omega)
      refine gx_ld (i := 2) (d := 0) (v := .inl z) rfl (fun _ => rfl) l17_2 rfl rfl ?_
      refine gx_ld (i := 4) (d := 0) (v := .inl v109) rfl (fun _ => rfl) hl17 rfl rfl ?_
      refine gx_iaddw rfl rfl (fun z22 z22b => ?_)
      refine gx_sto (i := 2) (d := 0) rfl (fun _ => rfl) rfl rfl (fun l23 hl23 ml23 => ?_)
      have l23_0 : en_ld l23 0 = some (gx_r 383) := ml23 0 _ l17_0 rfl
      have l23_1 : en_ld l23 1 = some (.inl 0) := ml23 1 _ l17_1 rfl
      have l23_3 : en_ld l23 3 = some (.inl 1) := ml23 3 _ l17_3 rfl
      have l23_4 : en_ld l23 4 = some (.inl v109) := ml23 4 _ hl17 rfl
      refine gx_ld (i := 0) (d := 2) (v := gx_r 383) rfl (fun _ => rfl) l23_0 rfl rfl ?_
      refine gx_ref (c := 399) rfl g118 rfl rfl rfl rfl ?_
      refine gx_ld (i := 1) (d := 0) (v := .inl 0) rfl (fun _ => rfl) l23_1 rfl rfl ?_
      refine ex_go (S := (112, l23, [.inl 13, .inl 0, gx_r 399], t118, n, 0)) rfl (fun _ => rfl) rfl ?_
      refine ex_go (S := (113, l23, [.inl 13, gx_r 399], t118, n, 0)) rfl (fun _ => rfl) rfl ?_
      refine gx_ld (i := 3) (d := 0) (v := .inl 1) rfl (fun _ => rfl) l23_3 rfl rfl ?_
      refine ex_go (S := (115, l23, [.inl 14, gx_r 399], t118, n, 0)) rfl (fun _ => rfl) rfl ?_
      refine gx_ld (i := 0) (d := 2) (v := gx_r 383) rfl (fun _ => rfl) l23_0 rfl rfl ?_
      refine gx_ref (c := 399) rfl g118 rfl rfl rfl rfl ?_
      refine gx_ld (i := 1) (d := 0) (v := .inl 0) rfl (fun _ => rfl) l23_1 rfl rfl ?_
      refine ex_go (S := (122, l23, [.inl 11, .inl 0, gx_r 399, .inl 14, gx_r 399], t118, n, 0)) rfl (fun _ => rfl) rfl ?_
      refine ex_go (S := (123, l23, [.inl 11, gx_r 399, .inl 14, gx_r 399], t118, n, 0)) rfl (fun _ => rfl) rfl ?_
      refine gx_ld (i := 3) (d := 0) (v := .inl 1) rfl (fun _ => rfl) l23_3 rfl rfl ?_
      refine ex_go (S := (125, l23, [.inl 12, gx_r 399, .inl 14, gx_r 399], t118, n, 0)) rfl (fun _ => rfl) rfl ?_
      refine gx_ag (v := .inl m7) (cb := fun c => Nat.beq c 0) rfl (fun _ => rfl) g118 rfl rfl k21 (by first | decide | omega) rfl ?_
      refine ex_go (S := (127, l23, [.inl 1, .inl m7, .inl 14, gx_r 399], t118, n, 0)) rfl (fun _ => rfl) rfl ?_
      by_cases hc24 : m7 ≠ 1
      · refine gx_2t (c := .ne) rfl (by first | decide | omega) (by first | decide | omega) hc24 rfl ?_
        refine ex_go (S := (149, l23, [.inl 0, .inl 14, gx_r 399], t118, n, 0)) rfl (fun _ => rfl) rfl ?_
        refine gx_ap rfl (fun _ => rfl) g118 rfl rfl rfl (show 14 < 1035 from by omega) rfl (ai_in_h (by first | decide | omega) (by first | decide | omega) (by first | decide | omega)) rfl (fun t125 g125 k125 e125 => ?_)
        have k26 : ai_hv t125 399 16 = some (.inl 0) := (e125 399 16 (by first | decide | omega)).trans k19
        have k27 : ai_hv t125 399 0 = some (.inl m5) := (e125 399 0 (by first | decide | omega)).trans k20
        have k28 : ai_hv t125 399 12 = some (.inl m7) := (e125 399 12 (by first | decide | omega)).trans k21
        have k29 : ai_hv t125 399 8 = some (.inl (m14 - v109)) := (e125 399 8 (by first | decide | omega)).trans k118
        have E125 := px_E_st E118 e125 (by first | decide | omega) (by first | decide | omega)
        refine gx_incS (i := 3) (a := 1) (x := 1) rfl (fun _ => rfl) l23_3 (by first | decide | omega) rfl (fun l30 hl30 ml30 => ?_)
        have l30_0 : en_ld l30 0 = some (gx_r 383) := ml30 0 _ l23_0 rfl
        have l30_1 : en_ld l30 1 = some (.inl 0) := ml30 1 _ l23_1 rfl
        have l30_4 : en_ld l30 4 = some (.inl v109) := ml30 4 _ l23_4 rfl
        have l30_2 : en_ld l30 2 = some (.inl z22) := ml30 2 _ hl23 rfl
        refine ex_go (S := (4, l30, [], t125, n, 0)) rfl (fun _ => rfl) rfl ?_
        exact ps_c_0_2 hp _ _ t125 (by first | decide | omega) g125 E125 (fun c i h => (e125 c i (by first | decide | omega)).trans ((e118 c i (by first | decide | omega)).trans ((e109 c i (by first | decide | omega)).trans ((e104 c i (by first | decide | omega)).trans ((f101 c i (by first | decide | omega)).trans (e0 c i h)))))) l30_0 l30_1 l30_2 hl30
      · refine gx_2f (c := .ne) rfl (by first | decide | omega) (by first | decide | omega) hc24 rfl ?_
        refine gx_ld (i := 0) (d := 2) (v := gx_r 383) rfl (fun _ => rfl) l23_0 rfl rfl ?_
        refine gx_ld (i := 0) (d := 2) (v := gx_r 383) rfl (fun _ => rfl) l23_0 rfl rfl ?_
        refine gx_ref (c := 399) rfl g118 rfl rfl rfl rfl ?_
        refine gx_ld (i := 1) (d := 0) (v := .inl 0) rfl (fun _ => rfl) l23_1 rfl rfl ?_
        refine ex_go (S := (138, l23, [.inl 13, .inl 0, gx_r 399, gx_r 383, .inl 14, gx_r 399], t118, n, 0)) rfl (fun _ => rfl) rfl ?_
        refine ex_go (S := (139, l23, [.inl 13, gx_r 399, gx_r 383, .inl 14, gx_r 399], t118, n, 0)) rfl (fun _ => rfl) rfl ?_
        refine gx_ld (i := 3) (d := 0) (v := .inl 1) rfl (fun _ => rfl) l23_3 rfl rfl ?_
        refine ex_go (S := (141, l23, [.inl 14, gx_r 399, gx_r 383, .inl 14, gx_r 399], t118, n, 0)) rfl (fun _ => rfl) rfl ?_
        obtain ⟨m31, k32, m31l, m31h⟩ := gx_in (c := 399) (i := 14) (lo := 0) (hi := 63) g118 rfl rfl rfl rfl
        refine gx_ag (v := .inl m31) (cb := fun c => Nat.beq c 0) rfl (fun _ => rfl) g118 rfl rfl k32 (by first | decide | omega) rfl ?_
        obtain ⟨v133, t133, r133, g133, E133, vb133, e133⟩ := hp.2.2.1 t118 n m31 g118 E118 (by first | decide | omega)
        refine gx_call1 rfl rfl g118 rfl rfl r133 rfl ?_
        have f133 : ∀ c i, ¬ (c = 0 ∧ c = 1) → ai_hv t133 c i = ai_hv t118 c i := fun c i _ => e133 c i
        have k34 : ai_hv t133 399 16 = some (.inl 0) := (f133 399 16 (by first | decide | omega)).trans k19
        have k35 : ai_hv t133 399 0 = some (.inl m5) := (f133 399 0 (by first | decide | omega)).trans k20
        have k36 : ai_hv t133 399 12 = some (.inl m7) := (f133 399 12 (by first | decide | omega)).trans k21
        have k37 : ai_hv t133 399 8 = some (.inl (m14 - v109)) := (f133 399 8 (by first | decide | omega)).trans k118
        have k38 : ai_hv t133 399 14 = some (.inl m31) := (f133 399 14 (by first | decide | omega)).trans k32
        refine ex_go (S := (149, l23, [.inl v133, .inl 14, gx_r 399], t133, n, 0)) rfl (fun _ => rfl) rfl ?_
        refine gx_ap rfl (fun _ => rfl) g133 rfl rfl rfl (show 14 < 1035 from by omega) rfl (ai_in_h (by first | decide | omega) (by first | decide | omega) (by first | decide | omega)) rfl (fun t139 g139 k139 e139 => ?_)
        have k40 : ai_hv t139 399 16 = some (.inl 0) := (e139 399 16 (by first | decide | omega)).trans k34
        have k41 : ai_hv t139 399 0 = some (.inl m5) := (e139 399 0 (by first | decide | omega)).trans k35
        have k42 : ai_hv t139 399 12 = some (.inl m7) := (e139 399 12 (by first | decide | omega)).trans k36
        have k43 : ai_hv t139 399 8 = some (.inl (m14 - v109)) := (e139 399 8 (by first | decide | omega)).trans k37
        have E139 := px_E_st E133 e139 (by first | decide | omega) (by first | decide | omega)
        refine gx_incS (i := 3) (a := 1) (x := 1) rfl (fun _ => rfl) l23_3 (by first | decide | omega) rfl (fun l44 hl44 ml44 => ?_)
        have l44_0 : en_ld l44 0 = some (gx_r 383) := ml44 0 _ l23_0 rfl
        have l44_1 : en_ld l44 1 = some (.inl 0) := ml44 1 _ l23_1 rfl
        have l44_4 : en_ld l44 4 = some (.inl v109) := ml44 4 _ l23_4 rfl
        have l44_2 : en_ld l44 2 = some (.inl z22) := ml44 2 _ hl23 rfl
        refine ex_go (S := (4, l44, [], t139, n, 0)) rfl (fun _ => rfl) rfl ?_
        exact ps_c_0_2 hp _ _ t139 (by first | decide | omega) g139 E139 (fun c i h => (e139 c i (by first | decide | omega)).trans ((f133 c i (by first | decide | omega)).trans ((e118 c i (by first | decide | omega)).trans ((e109 c i (by first | decide | omega)).trans ((e104 c i (by first | decide | omega)).trans ((f101 c i (by first | decide | omega)).trans (e0 c i h))))))) l44_0 l44_1 l44_2 hl44
    · refine gx_2f (c := .le) rfl (by first | decide | omega) (by first | decide | omega) hc16 rfl ?_
      refine gx_ld (i := 0) (d := 2) (v := gx_r 383) rfl (fun _ => rfl) l13_0 rfl rfl ?_
      refine gx_ref (c := 399) rfl g109 rfl rfl rfl rfl ?_
      refine gx_ld (i := 1) (d := 0) (v := .inl 0) rfl (fun _ => rfl) l13_1 rfl rfl ?_
      refine ex_go (S := (73, l13, [.inl 7, .inl 0, gx_r 399], t109, n, 0)) rfl (fun _ => rfl) rfl ?_
      refine ex_go (S := (74, l13, [.inl 7, gx_r 399], t109, n, 0)) rfl (fun _ => rfl) rfl ?_
      refine gx_ld (i := 3) (d := 0) (v := .inl 1) rfl (fun _ => rfl) l13_3 rfl rfl ?_
      refine ex_go (S := (76, l13, [.inl 8, gx_r 399], t109, n, 0)) rfl (fun _ => rfl) rfl ?_
      refine gx_ag (v := .inl m14) (cb := fun c => Nat.beq c 0) rfl (fun _ => rfl) g109 rfl rfl k15 (by first | decide | omega) rfl ?_
      refine ex_go (S := (82, l13, [.inl m14], t109, n, 0)) rfl (fun _ => rfl) rfl ?_
      refine gx_sto (i := 4) (d := 0) rfl (fun _ => rfl) rfl rfl (fun l45 hl45 ml45 => ?_)
      have l45_0 : en_ld l45 0 = some (gx_r 383) := ml45 0 _ l13_0 rfl
      have l45_1 : en_ld l45 1 = some (.inl 0) := ml45 1 _ l13_1 rfl
      have l45_2 : en_ld l45 2 = some (.inl z) := ml45 2 _ l13_2 rfl
      have l45_3 : en_ld l45 3 = some (.inl 1) := ml45 3 _ l13_3 rfl
      refine gx_ld (i := 0) (d := 2) (v := gx_r 383) rfl (fun _ => rfl) l45_0 rfl rfl ?_
      refine gx_ref (c := 399) rfl g109 rfl rfl rfl rfl ?_
      refine gx_ld (i := 1) (d := 0) (v := .inl 0) rfl (fun _ => rfl) l45_1 rfl rfl ?_
      refine ex_go (S := (91, l45, [.inl 7, .inl 0, gx_r 399], t109, n, 0)) rfl (fun _ => rfl) rfl ?_
      refine ex_go (S := (92, l45, [.inl 7, gx_r 399], t109, n, 0)) rfl (fun _ => rfl) rfl ?_
      refine gx_ld (i := 3) (d := 0) (v := .inl 1) rfl (fun _ => rfl) l45_3 rfl rfl ?_
      refine ex_go (S := (94, l45, [.inl 8, gx_r 399], t109, n, 0)) rfl (fun _ => rfl) rfl ?_
      refine ex_go (S := (95, l45, [.inl 8, gx_r 399, .inl 8, gx_r 399], t109, n, 0)) rfl (fun _ => rfl) rfl ?_
      refine gx_ag (v := .inl m14) (cb := fun c => Nat.beq c 0) rfl (fun _ => rfl) g109 rfl rfl k15 (by first | decide | omega) rfl ?_
      refine gx_ld (i := 4) (d := 0) (v := .inl m14) rfl (fun _ => rfl) hl45 rfl rfl ?_
      refine gx_isub rfl (by first | decide | omega) (by first | decide | omega) rfl ?_
      refine gx_ap rfl (fun _ => rfl) g109 rfl rfl rfl (show 8 < 1035 from by omega) rfl (ai_in_h (by first | decide | omega) (by first | decide | omega) (by first | decide | omega)) rfl (fun t146 g146 k146 e146 => ?_)
      have k47 : ai_hv t146 399 16 = some (.inl 0) := (e146 399 16 (by first | decide | omega)).trans k10
      have k48 : ai_hv t146 399 0 = some (.inl m5) := (e146 399 0 (by first | decide | omega)).trans k11
      have k49 : ai_hv t146 399 12 = some (.inl m7) := (e146 399 12 (by first | decide | omega)).trans k12
      have E146 := px_E_bis (b := 0) (y := 8) E109 e146 k15 k146 (by decide) (by first | decide | omega) (by first | decide | omega)
      refine gx_ld (i := 2) (d := 0) (v := .inl z) rfl (fun _ => rfl) l45_2 rfl rfl ?_
      refine gx_ld (i := 4) (d := 0) (v := .inl m14) rfl (fun _ => rfl) hl45 rfl rfl ?_
      refine gx_iaddw rfl rfl (fun z50 z50b => ?_)
      refine gx_sto (i := 2) (d := 0) rfl (fun _ => rfl) rfl rfl (fun l51 hl51 ml51 => ?_)
      have l51_0 : en_ld l51 0 = some (gx_r 383) := ml51 0 _ l45_0 rfl
      have l51_1 : en_ld l51 1 = some (.inl 0) := ml51 1 _ l45_1 rfl
      have l51_3 : en_ld l51 3 = some (.inl 1) := ml51 3 _ l45_3 rfl
      have l51_4 : en_ld l51 4 = some (.inl m14) := ml51 4 _ hl45 rfl
      refine gx_ld (i := 0) (d := 2) (v := gx_r 383) rfl (fun _ => rfl) l51_0 rfl rfl ?_
      refine gx_ref (c := 399) rfl g146 rfl rfl rfl rfl ?_
      refine gx_ld (i := 1) (d := 0) (v := .inl 0) rfl (fun _ => rfl) l51_1 rfl rfl ?_
      refine ex_go (S := (112, l51, [.inl 13, .inl 0, gx_r 399], t146, n, 0)) rfl (fun _ => rfl) rfl ?_
      refine ex_go (S := (113, l51, [.inl 13, gx_r 399], t146, n, 0)) rfl (fun _ => rfl) rfl ?_
      refine gx_ld (i := 3) (d := 0) (v := .inl 1) rfl (fun _ => rfl) l51_3 rfl rfl ?_
      refine ex_go (S := (115, l51, [.inl 14, gx_r 399], t146, n, 0)) rfl (fun _ => rfl) rfl ?_
      refine gx_ld (i := 0) (d := 2) (v := gx_r 383) rfl (fun _ => rfl) l51_0 rfl rfl ?_
      refine gx_ref (c := 399) rfl g146 rfl rfl rfl rfl ?_
      refine gx_ld (i := 1) (d := 0) (v := .inl 0) rfl (fun _ => rfl) l51_1 rfl rfl ?_
      refine ex_go (S := (122, l51, [.inl 11, .inl 0, gx_r 399, .inl 14, gx_r 399], t146, n, 0)) rfl (fun _ => rfl) rfl ?_
      refine ex_go (S := (123, l51, [.inl 11, gx_r 399, .inl 14, gx_r 399], t146, n, 0)) rfl (fun _ => rfl) rfl ?_
      refine gx_ld (i := 3) (d := 0) (v := .inl 1) rfl (fun _ => rfl) l51_3 rfl rfl ?_
      refine ex_go (S := (125, l51, [.inl 12, gx_r 399, .inl 14, gx_r 399], t146, n, 0)) rfl (fun _ => rfl) rfl ?_
      refine gx_ag (v := .inl m7) (cb := fun c => Nat.beq c 0) rfl (fun _ => rfl) g146 rfl rfl k49 (by first | decide | omega) rfl ?_
      refine ex_go (S := (127, l51, [.inl 1, .inl m7, .inl 14, gx_r 399], t146, n, 0)) rfl (fun _ => rfl) rfl ?_
      by_cases hc52 : m7 ≠ 1
      · refine gx_2t (c := .ne) rfl (by first | decide | omega) (by first | decide | omega) hc52 rfl ?_
        refine ex_go (S := (149, l51, [.inl 0, .inl 14, gx_r 399], t146, n, 0)) rfl (fun _ => rfl) rfl ?_
        refine gx_ap rfl (fun _ => rfl) g146 rfl rfl rfl (show 14 < 1035 from by omega) rfl (ai_in_h (by first | decide | omega) (by first | decide | omega) (by first | decide | omega)) rfl (fun t153 g153 k153 e153 => ?_)
        have k54 : ai_hv t153 399 16 = some (.inl 0) := (e153 399 16 (by first | decide | omega)).trans k47
        have k55 : ai_hv t153 399 0 = some (.inl m5) := (e153 399 0 (by first | decide | omega)).trans k48
        have k56 : ai_hv t153 399 12 = some (.inl m7) := (e153 399 12 (by first | decide | omega)).trans k49
        have k57 : ai_hv t153 399 8 = some (.inl (m14 - m14)) := (e153 399 8 (by first | decide | omega)).trans k146
        have E153 := px_E_st E146 e153 (by first | decide | omega) (by first | decide | omega)
        refine gx_incS (i := 3) (a := 1) (x := 1) rfl (fun _ => rfl) l51_3 (by first | decide | omega) rfl (fun l58 hl58 ml58 => ?_)
        have l58_0 : en_ld l58 0 = some (gx_r 383) := ml58 0 _ l51_0 rfl
        have l58_1 : en_ld l58 1 = some (.inl 0) := ml58 1 _ l51_1 rfl
        have l58_4 : en_ld l58 4 = some (.inl m14) := ml58 4 _ l51_4 rfl
        have l58_2 : en_ld l58 2 = some (.inl z50) := ml58 2 _ hl51 rfl
        refine ex_go (S := (4, l58, [], t153, n, 0)) rfl (fun _ => rfl) rfl ?_
        exact ps_c_0_2 hp _ _ t153 (by first | decide | omega) g153 E153 (fun c i h => (e153 c i (by first | decide | omega)).trans ((e146 c i (by first | decide | omega)).trans ((e109 c i (by first | decide | omega)).trans ((e104 c i (by first | decide | omega)).trans ((f101 c i (by first | decide | omega)).trans (e0 c i h)))))) l58_0 l58_1 l58_2 hl58
      · refine gx_2f (c := .ne) rfl (by first | decide | omega) (by first | decide | omega) hc52 rfl ?_
        refine gx_ld (i := 0) (d := 2) (v := gx_r 383) rfl (fun _ => rfl) l51_0 rfl rfl ?_
        refine gx_ld (i := 0) (d := 2) (v := gx_r 383) rfl (fun _ => rfl) l51_0 rfl rfl ?_
        refine gx_ref (c := 399) rfl g146 rfl rfl rfl rfl ?_
        refine gx_ld (i := 1) (d := 0) (v := .inl 0) rfl (fun _ => rfl) l51_1 rfl rfl ?_
        refine ex_go (S := (138, l51, [.inl 13, .inl 0, gx_r 399, gx_r 383, .inl 14, gx_r 399], t146, n, 0)) rfl (fun _ => rfl) rfl ?_
        refine ex_go (S := (139, l51, [.inl 13, gx_r 399, gx_r 383, .inl 14, gx_r 399], t146, n, 0)) rfl (fun _ => rfl) rfl ?_
        refine gx_ld (i := 3) (d := 0) (v := .inl 1) rfl (fun _ => rfl) l51_3 rfl rfl ?_
        refine ex_go (S := (141, l51, [.inl 14, gx_r 399, gx_r 383, .inl 14, gx_r 399], t146, n, 0)) rfl (fun _ => rfl) rfl ?_
        obtain ⟨m59, k60, m59l, m59h⟩ := gx_in (c := 399) (i := 14) (lo := 0) (hi := 63) g146 rfl rfl rfl rfl
        refine gx_ag (v := .inl m59) (cb := fun c => Nat.beq c 0) rfl (fun _ => rfl) g146 rfl rfl k60 (by first | decide | omega) rfl ?_
        obtain ⟨v161, t161, r161, g161, E161, vb161, e161⟩ := hp.2.2.1 t146 n m59 g146 E146 (by first | decide | omega)
        refine gx_call1 rfl rfl g146 rfl rfl r161 rfl ?_
        have f161 : ∀ c i, ¬ (c = 0 ∧ c = 1) → ai_hv t161 c i = ai_hv t146 c i := fun c i _ => e161 c i
        have k62 : ai_hv t161 399 16 = some (.inl 0) := (f161 399 16 (by first | decide | omega)).trans k47
        have k63 : ai_hv t161 399 0 = some (.inl m5) := (f161 399 0 (by first | decide | omega)).trans k48
        have k64 : ai_hv t161 399 12 = some (.inl m7) := (f161 399 12 (by first | decide | omega)).trans k49
        have k65 : ai_hv t161 399 8 = some (.inl (m14 - m14)) := (f161 399 8 (by first | decide | omega)).trans k146
        have k66 : ai_hv t161 399 14 = some (.inl m59) := (f161 399 14 (by first | decide | omega)).trans k60
        refine ex_go (S := (149, l51, [.inl v161, .inl 14, gx_r 399], t161, n, 0)) rfl (fun _ => rfl) rfl ?_
        refine gx_ap rfl (fun _ => rfl) g161 rfl rfl rfl (show 14 < 1035 from by omega) rfl (ai_in_h (by first | decide | omega) (by first | decide | omega) (by first | decide | omega)) rfl (fun t167 g167 k167 e167 => ?_)
        have k68 : ai_hv t167 399 16 = some (.inl 0) := (e167 399 16 (by first | decide | omega)).trans k62
        have k69 : ai_hv t167 399 0 = some (.inl m5) := (e167 399 0 (by first | decide | omega)).trans k63
        have k70 : ai_hv t167 399 12 = some (.inl m7) := (e167 399 12 (by first | decide | omega)).trans k64
        have k71 : ai_hv t167 399 8 = some (.inl (m14 - m14)) := (e167 399 8 (by first | decide | omega)).trans k65
        have E167 := px_E_st E161 e167 (by first | decide | omega) (by first | decide | omega)
        refine gx_incS (i := 3) (a := 1) (x := 1) rfl (fun _ => rfl) l51_3 (by first | decide | omega) rfl (fun l72 hl72 ml72 => ?_)
        have l72_0 : en_ld l72 0 = some (gx_r 383) := ml72 0 _ l51_0 rfl
        have l72_1 : en_ld l72 1 = some (.inl 0) := ml72 1 _ l51_1 rfl
        have l72_4 : en_ld l72 4 = some (.inl m14) := ml72 4 _ l51_4 rfl
        have l72_2 : en_ld l72 2 = some (.inl z50) := ml72 2 _ hl51 rfl
        refine ex_go (S := (4, l72, [], t167, n, 0)) rfl (fun _ => rfl) rfl ?_
        exact ps_c_0_2 hp _ _ t167 (by first | decide | omega) g167 E167 (fun c i h => (e167 c i (by first | decide | omega)).trans ((f161 c i (by first | decide | omega)).trans ((e146 c i (by first | decide | omega)).trans ((e109 c i (by first | decide | omega)).trans ((e104 c i (by first | decide | omega)).trans ((f101 c i (by first | decide | omega)).trans (e0 c i h))))))) l72_0 l72_1 l72_2 hl72
set_option maxRecDepth 100000 in
theorem ps_c_0_0 {fn : en_F} (hp : gx_pass fn) {n : Nat} {tb : en_H} (z : Nat) (cl : en_L) (t0 : en_H) (hz : z < 4294967296) (g0 : ai_HG ah_G t0) (E0 : ai_E t0) (e0 : (∀ c i, ¬ ((c = 397 ∧ i ≤ 3) ∨ (c = 398 ∧ i ≤ 1099) ∨ (c = 399 ∧ i ≤ 1034)) → ai_hv t0 c i = ai_hv tb c i)) (h0 : en_ld cl 0 = some (gx_r 383)) (h1 : en_ld cl 1 = some (.inl 0)) (h2 : en_ld cl 2 = some (.inl z)) (h3 : en_ld cl 3 = some (.inl 0)) : en_ex none fn (en_code 116) (fun _ => false) (4, cl, [], t0, n, 0) (fun o => ∃ r, o = .inl r ∧ ∃ v t', r = (some (.inl v), t', n, 0) ∧ v < 4294967296 ∧ ai_HG ah_G t' ∧ ai_E t' ∧ (∀ c i, ¬ ((c = 397 ∧ i ≤ 3) ∨ (c = 398 ∧ i ≤ 1099) ∨ (c = 399 ∧ i ≤ 1034)) → ai_hv t' c i = ai_hv tb c i)) := by
  refine gx_ld (i := 3) (d := 0) (v := .inl 0) rfl (fun _ => rfl) h3 rfl rfl ?_
  refine gx_ld (i := 0) (d := 2) (v := gx_r 383) rfl (fun _ => rfl) h0 rfl rfl ?_
  obtain ⟨v101, t101, r101, g101, E101, vb101, e101⟩ := hp.1 t0 n  g0 E0 
  refine gx_call1 rfl rfl g0 rfl rfl r101 rfl ?_
  have f101 : ∀ c i, ¬ (c = 0 ∧ c = 1) → ai_hv t101 c i = ai_hv t0 c i := fun c i _ => e101 c i
  by_cases hc2 : v101 ≤ 0
  · refine gx_2t (c := .ge) rfl (by first | decide | omega) (by first | decide | omega) hc2 rfl ?_
    refine ex_go (S := (157, cl, [.inl 0], t101, n, 0)) rfl (fun _ => rfl) rfl ?_
    refine gx_sto (i := 3) (d := 0) rfl (fun _ => rfl) rfl rfl (fun l3 hl3 ml3 => ?_)
    have l3_0 : en_ld l3 0 = some (gx_r 383) := ml3 0 _ h0 rfl
    have l3_1 : en_ld l3 1 = some (.inl 0) := ml3 1 _ h1 rfl
    have l3_2 : en_ld l3 2 = some (.inl z) := ml3 2 _ h2 rfl
    exact ps_t_0 hp 6 0 _ _ t101 (by first | decide | omega) (by first | decide | omega) g101 E101 (fun c i h => (f101 c i (by first | decide | omega)).trans (e0 c i h)) l3_0 l3_1 l3_2 hl3
  · refine gx_2f (c := .ge) rfl (by first | decide | omega) (by first | decide | omega) hc2 rfl ?_
    refine gx_ld (i := 0) (d := 2) (v := gx_r 383) rfl (fun _ => rfl) h0 rfl rfl ?_
    refine gx_ref (c := 399) rfl g101 rfl rfl rfl rfl ?_
    refine gx_ld (i := 1) (d := 0) (v := .inl 0) rfl (fun _ => rfl) h1 rfl rfl ?_
    refine ex_go (S := (19, cl, [.inl 15, .inl 0, gx_r 399], t101, n, 0)) rfl (fun _ => rfl) rfl ?_
    refine ex_go (S := (20, cl, [.inl 15, gx_r 399], t101, n, 0)) rfl (fun _ => rfl) rfl ?_
    refine gx_ld (i := 3) (d := 0) (v := .inl 0) rfl (fun _ => rfl) h3 rfl rfl ?_
    refine ex_go (S := (22, cl, [.inl 15, gx_r 399], t101, n, 0)) rfl (fun _ => rfl) rfl ?_
    refine ex_go (S := (23, cl, [.inl 0, .inl 15, gx_r 399], t101, n, 0)) rfl (fun _ => rfl) rfl ?_
    refine gx_ap rfl (fun _ => rfl) g101 rfl rfl rfl (show 15 < 1035 from by omega) rfl (ai_in_h (by first | decide | omega) (by first | decide | omega) (by first | decide | omega)) rfl (fun t104 g104 k104 e104 => ?_)
    have E104 := px_E_st E101 e104 (by first | decide | omega) (by first | decide | omega)
    refine gx_ld (i := 0) (d := 2) (v := gx_r 383) rfl (fun _ => rfl) h0 rfl rfl ?_
    refine gx_ld (i := 3) (d := 0) (v := .inl 0) rfl (fun _ => rfl) h3 rfl rfl ?_
    refine gx_ld (i := 0) (d := 2) (v := gx_r 383) rfl (fun _ => rfl) h0 rfl rfl ?_
    refine gx_ref (c := 399) rfl g104 rfl rfl rfl rfl ?_
    refine gx_ld (i := 1) (d := 0) (v := .inl 0) rfl (fun _ => rfl) h1 rfl rfl ?_
    refine ex_go (S := (32, cl, [.inl 0, .inl 0, gx_r 399, .inl 0, gx_r 383], t104, n, 0)) rfl (fun _ => rfl) rfl ?_
    refine ex_go (S := (33, cl, [.inl 0, gx_r 399, .inl 0, gx_r 383], t104, n, 0)) rfl (fun _ => rfl) rfl ?_
    obtain ⟨m5, k6, m5b⟩ := gx_any (c := 399) (i := 0) g104 rfl rfl rfl
    refine gx_ag (v := .inl m5) (cb := fun c => Nat.beq c 0) rfl (fun _ => rfl) g104 rfl rfl k6 (by first | decide | omega) rfl ?_
    refine gx_ld (i := 0) (d := 2) (v := gx_r 383) rfl (fun _ => rfl) h0 rfl rfl ?_
    refine gx_ref (c := 399) rfl g104 rfl rfl rfl rfl ?_
    refine gx_ld (i := 1) (d := 0) (v := .inl 0) rfl (fun _ => rfl) h1 rfl rfl ?_
    refine ex_go (S := (41, cl, [.inl 11, .inl 0, gx_r 399, .inl m5, .inl 0, gx_r 383], t104, n, 0)) rfl (fun _ => rfl) rfl ?_
    refine ex_go (S := (42, cl, [.inl 11, gx_r 399, .inl m5, .inl 0, gx_r 383], t104, n, 0)) rfl (fun _ => rfl) rfl ?_
    refine gx_ld (i := 3) (d := 0) (v := .inl 0) rfl (fun _ => rfl) h3 rfl rfl ?_
    refine ex_go (S := (44, cl, [.inl 11, gx_r 399, .inl m5, .inl 0, gx_r 383], t104, n, 0)) rfl (fun _ => rfl) rfl ?_
    obtain ⟨m7, k8, m7l, m7h⟩ := gx_in (c := 399) (i := 11) (lo := 0) (hi := 1) g104 rfl rfl rfl rfl
    refine gx_ag (v := .inl m7) (cb := fun c => Nat.beq c 0) rfl (fun _ => rfl) g104 rfl rfl k8 (by first | decide | omega) rfl ?_
    obtain ⟨v109, t109, r109, g109, E109, vb109, e109⟩ := hp.2.2.2 t104 n 0 m5 m7 g104 E104 (by first | decide | omega) (by first | decide | omega) (by first | decide | omega)
    refine gx_call1 rfl rfl g104 rfl rfl r109 rfl ?_
    have k10 : ai_hv t109 399 15 = some (.inl 0) := (e109 399 15 (by first | decide | omega)).trans k104
    have k11 : ai_hv t109 399 0 = some (.inl m5) := (e109 399 0 (by first | decide | omega)).trans k6
    have k12 : ai_hv t109 399 11 = some (.inl m7) := (e109 399 11 (by first | decide | omega)).trans k8
    refine gx_sto (i := 4) (d := 0) rfl (fun _ => rfl) rfl rfl (fun l13 hl13 ml13 => ?_)
    have l13_0 : en_ld l13 0 = some (gx_r 383) := ml13 0 _ h0 rfl
    have l13_1 : en_ld l13 1 = some (.inl 0) := ml13 1 _ h1 rfl
    have l13_2 : en_ld l13 2 = some (.inl z) := ml13 2 _ h2 rfl
    have l13_3 : en_ld l13 3 = some (.inl 0) := ml13 3 _ h3 rfl
    refine gx_ld (i := 4) (d := 0) (v := .inl v109) rfl (fun _ => rfl) hl13 rfl rfl ?_
    refine gx_ld (i := 0) (d := 2) (v := gx_r 383) rfl (fun _ => rfl) l13_0 rfl rfl ?_
    refine gx_ref (c := 399) rfl g109 rfl rfl rfl rfl ?_
    refine gx_ld (i := 1) (d := 0) (v := .inl 0) rfl (fun _ => rfl) l13_1 rfl rfl ?_
    refine ex_go (S := (59, l13, [.inl 7, .inl 0, gx_r 399, .inl v109], t109, n, 0)) rfl (fun _ => rfl) rfl ?_
    refine ex_go (S := (60, l13, [.inl 7, gx_r 399, .inl v109], t109, n, 0)) rfl (fun _ => rfl) rfl ?_
    refine gx_ld (i := 3) (d := 0) (v := .inl 0) rfl (fun _ => rfl) l13_3 rfl rfl ?_
    refine ex_go (S := (62, l13, [.inl 7, gx_r 399, .inl v109], t109, n, 0)) rfl (fun _ => rfl) rfl ?_
    obtain ⟨m14, k15, m14l, m14h⟩ := gx_in (c := 399) (i := 7) (lo := 0) (hi := 19998) g109 rfl rfl rfl rfl
    refine gx_ag (v := .inl m14) (cb := fun c => Nat.beq c 0) rfl (fun _ => rfl) g109 rfl rfl k15 (by first | decide | omega) rfl ?_
    by_cases hc16 : v109 ≤ m14
    · refine gx_2t (c := .le) rfl (by first | decide | omega) (by first | decide | omega) hc16 rfl ?_
      refine gx_ld (i := 4) (d := 0) (v := .inl v109) rfl (fun _ => rfl) hl13 rfl rfl ?_
      refine gx_sto (i := 4) (d := 0) rfl (fun _ => rfl) rfl rfl (fun l17 hl17 ml17 => ?_)
      have l17_0 : en_ld l17 0 = some (gx_r 383) := ml17 0 _ l13_0 rfl
      have l17_1 : en_ld l17 1 = some (.inl 0) := ml17 1 _ l13_1 rfl
      have l17_2 : en_ld l17 2 = some (.inl z) := ml17 2 _ l13_2 rfl
      have l17_3 : en_ld l17 3 = some (.inl 0) := ml17 3 _ l13_3 rfl
      refine gx_ld (i := 0) (d := 2) (v := gx_r 383) rfl (fun _ => rfl) l17_0 rfl rfl ?_
      refine gx_ref (c := 399) rfl g109 rfl rfl rfl rfl ?_
      refine gx_ld (i := 1) (d := 0) (v := .inl 0) rfl (fun _ => rfl) l17_1 rfl rfl ?_
      refine ex_go (S := (91, l17, [.inl 7, .inl 0, gx_r 399], t109, n, 0)) rfl (fun _ => rfl) rfl ?_
      refine ex_go (S := (92, l17, [.inl 7, gx_r 399], t109, n, 0)) rfl (fun _ => rfl) rfl ?_
      refine gx_ld (i := 3) (d := 0) (v := .inl 0) rfl (fun _ => rfl) l17_3 rfl rfl ?_
      refine ex_go (S := (94, l17, [.inl 7, gx_r 399], t109, n, 0)) rfl (fun _ => rfl) rfl ?_
      refine ex_go (S := (95, l17, [.inl 7, gx_r 399, .inl 7, gx_r 399], t109, n, 0)) rfl (fun _ => rfl) rfl ?_
      refine gx_ag (v := .inl m14) (cb := fun c => Nat.beq c 0) rfl (fun _ => rfl) g109 rfl rfl k15 (by first | decide | omega) rfl ?_
      refine gx_ld (i := 4) (d := 0) (v := .inl v109) rfl (fun _ => rfl) hl17 rfl rfl ?_
      refine gx_isub rfl (by first | decide | omega) (by first | decide | omega) rfl ?_
      refine gx_ap rfl (fun _ => rfl) g109 rfl rfl rfl (show 7 < 1035 from by omega) rfl (ai_in_h (by first | decide | omega) (by first | decide | omega) (by first | decide | omega)) rfl (fun t118 g118 k118 e118 => ?_)
      have k19 : ai_hv t118 399 15 = some (.inl 0) := (e118 399 15 (by first | decide | omega)).trans k10
      have k20 : ai_hv t118 399 0 = some (.inl m5) := (e118 399 0 (by first | decide | omega)).trans k11
      have k21 : ai_hv t118 399 11 = some (.inl m7) := (e118 399 11 (by first | decide | omega)).trans k12
      have E118 := px_E_bis (b := 0) (y := 7) E109 e118 k15 k118 (by decide) (by first | decide | omega) (by first | decide | omega)
      refine gx_ld (i := 2) (d := 0) (v := .inl z) rfl (fun _ => rfl) l17_2 rfl rfl ?_
      refine gx_ld (i := 4) (d := 0) (v := .inl v109) rfl (fun _ => rfl) hl17 rfl rfl ?_
      refine gx_iaddw rfl rfl (fun z22 z22b => ?_)
      refine gx_sto (i := 2) (d := 0) rfl (fun _ => rfl) rfl rfl (fun l23 hl23 ml23 => ?_)
      have l23_0 : en_ld l23 0 = some (gx_r 383) := ml23 0 _ l17_0 rfl
      have l23_1 : en_ld l23 1 = some (.inl 0) := ml23 1 _ l17_1 rfl
      have l23_3 : en_ld l23 3 = some (.inl 0) := ml23 3 _ l17_3 rfl
      have l23_4 : en_ld l23 4 = some (.inl v109) := ml23 4 _ hl17 rfl
      refine gx_ld (i := 0) (d := 2) (v := gx_r 383) rfl (fun _ => rfl) l23_0 rfl rfl ?_
      refine gx_ref (c := 399) rfl g118 rfl rfl rfl rfl ?_
      refine gx_ld (i := 1) (d := 0) (v := .inl 0) rfl (fun _ => rfl) l23_1 rfl rfl ?_
      refine ex_go (S := (112, l23, [.inl 13, .inl 0, gx_r 399], t118, n, 0)) rfl (fun _ => rfl) rfl ?_
      refine ex_go (S := (113, l23, [.inl 13, gx_r 399], t118, n, 0)) rfl (fun _ => rfl) rfl ?_
      refine gx_ld (i := 3) (d := 0) (v := .inl 0) rfl (fun _ => rfl) l23_3 rfl rfl ?_
      refine ex_go (S := (115, l23, [.inl 13, gx_r 399], t118, n, 0)) rfl (fun _ => rfl) rfl ?_
      refine gx_ld (i := 0) (d := 2) (v := gx_r 383) rfl (fun _ => rfl) l23_0 rfl rfl ?_
      refine gx_ref (c := 399) rfl g118 rfl rfl rfl rfl ?_
      refine gx_ld (i := 1) (d := 0) (v := .inl 0) rfl (fun _ => rfl) l23_1 rfl rfl ?_
      refine ex_go (S := (122, l23, [.inl 11, .inl 0, gx_r 399, .inl 13, gx_r 399], t118, n, 0)) rfl (fun _ => rfl) rfl ?_
      refine ex_go (S := (123, l23, [.inl 11, gx_r 399, .inl 13, gx_r 399], t118, n, 0)) rfl (fun _ => rfl) rfl ?_
      refine gx_ld (i := 3) (d := 0) (v := .inl 0) rfl (fun _ => rfl) l23_3 rfl rfl ?_
      refine ex_go (S := (125, l23, [.inl 11, gx_r 399, .inl 13, gx_r 399], t118, n, 0)) rfl (fun _ => rfl) rfl ?_
      refine gx_ag (v := .inl m7) (cb := fun c => Nat.beq c 0) rfl (fun _ => rfl) g118 rfl rfl k21 (by first | decide | omega) rfl ?_
      refine ex_go (S := (127, l23, [.inl 1, .inl m7, .inl 13, gx_r 399], t118, n, 0)) rfl (fun _ => rfl) rfl ?_
      by_cases hc24 : m7 ≠ 1
      · refine gx_2t (c := .ne) rfl (by first | decide | omega) (by first | decide | omega) hc24 rfl ?_
        refine ex_go (S := (149, l23, [.inl 0, .inl 13, gx_r 399], t118, n, 0)) rfl (fun _ => rfl) rfl ?_
        refine gx_ap rfl (fun _ => rfl) g118 rfl rfl rfl (show 13 < 1035 from by omega) rfl (ai_in_h (by first | decide | omega) (by first | decide | omega) (by first | decide | omega)) rfl (fun t125 g125 k125 e125 => ?_)
        have k26 : ai_hv t125 399 15 = some (.inl 0) := (e125 399 15 (by first | decide | omega)).trans k19
        have k27 : ai_hv t125 399 0 = some (.inl m5) := (e125 399 0 (by first | decide | omega)).trans k20
        have k28 : ai_hv t125 399 11 = some (.inl m7) := (e125 399 11 (by first | decide | omega)).trans k21
        have k29 : ai_hv t125 399 7 = some (.inl (m14 - v109)) := (e125 399 7 (by first | decide | omega)).trans k118
        have E125 := px_E_st E118 e125 (by first | decide | omega) (by first | decide | omega)
        refine gx_incS (i := 3) (a := 0) (x := 1) rfl (fun _ => rfl) l23_3 (by first | decide | omega) rfl (fun l30 hl30 ml30 => ?_)
        have l30_0 : en_ld l30 0 = some (gx_r 383) := ml30 0 _ l23_0 rfl
        have l30_1 : en_ld l30 1 = some (.inl 0) := ml30 1 _ l23_1 rfl
        have l30_4 : en_ld l30 4 = some (.inl v109) := ml30 4 _ l23_4 rfl
        have l30_2 : en_ld l30 2 = some (.inl z22) := ml30 2 _ hl23 rfl
        refine ex_go (S := (4, l30, [], t125, n, 0)) rfl (fun _ => rfl) rfl ?_
        exact ps_c_0_1 hp _ _ t125 (by first | decide | omega) g125 E125 (fun c i h => (e125 c i (by first | decide | omega)).trans ((e118 c i (by first | decide | omega)).trans ((e109 c i (by first | decide | omega)).trans ((e104 c i (by first | decide | omega)).trans ((f101 c i (by first | decide | omega)).trans (e0 c i h)))))) l30_0 l30_1 l30_2 hl30
      · refine gx_2f (c := .ne) rfl (by first | decide | omega) (by first | decide | omega) hc24 rfl ?_
        refine gx_ld (i := 0) (d := 2) (v := gx_r 383) rfl (fun _ => rfl) l23_0 rfl rfl ?_
        refine gx_ld (i := 0) (d := 2) (v := gx_r 383) rfl (fun _ => rfl) l23_0 rfl rfl ?_
        refine gx_ref (c := 399) rfl g118 rfl rfl rfl rfl ?_
        refine gx_ld (i := 1) (d := 0) (v := .inl 0) rfl (fun _ => rfl) l23_1 rfl rfl ?_
        refine ex_go (S := (138, l23, [.inl 13, .inl 0, gx_r 399, gx_r 383, .inl 13, gx_r 399], t118, n, 0)) rfl (fun _ => rfl) rfl ?_
        refine ex_go (S := (139, l23, [.inl 13, gx_r 399, gx_r 383, .inl 13, gx_r 399], t118, n, 0)) rfl (fun _ => rfl) rfl ?_
        refine gx_ld (i := 3) (d := 0) (v := .inl 0) rfl (fun _ => rfl) l23_3 rfl rfl ?_
        refine ex_go (S := (141, l23, [.inl 13, gx_r 399, gx_r 383, .inl 13, gx_r 399], t118, n, 0)) rfl (fun _ => rfl) rfl ?_
        obtain ⟨m31, k32, m31l, m31h⟩ := gx_in (c := 399) (i := 13) (lo := 0) (hi := 63) g118 rfl rfl rfl rfl
        refine gx_ag (v := .inl m31) (cb := fun c => Nat.beq c 0) rfl (fun _ => rfl) g118 rfl rfl k32 (by first | decide | omega) rfl ?_
        obtain ⟨v133, t133, r133, g133, E133, vb133, e133⟩ := hp.2.2.1 t118 n m31 g118 E118 (by first | decide | omega)
        refine gx_call1 rfl rfl g118 rfl rfl r133 rfl ?_
        have f133 : ∀ c i, ¬ (c = 0 ∧ c = 1) → ai_hv t133 c i = ai_hv t118 c i := fun c i _ => e133 c i
        have k34 : ai_hv t133 399 15 = some (.inl 0) := (f133 399 15 (by first | decide | omega)).trans k19
        have k35 : ai_hv t133 399 0 = some (.inl m5) := (f133 399 0 (by first | decide | omega)).trans k20
        have k36 : ai_hv t133 399 11 = some (.inl m7) := (f133 399 11 (by first | decide | omega)).trans k21
        have k37 : ai_hv t133 399 7 = some (.inl (m14 - v109)) := (f133 399 7 (by first | decide | omega)).trans k118
        have k38 : ai_hv t133 399 13 = some (.inl m31) := (f133 399 13 (by first | decide | omega)).trans k32
        refine ex_go (S := (149, l23, [.inl v133, .inl 13, gx_r 399], t133, n, 0)) rfl (fun _ => rfl) rfl ?_
        refine gx_ap rfl (fun _ => rfl) g133 rfl rfl rfl (show 13 < 1035 from by omega) rfl (ai_in_h (by first | decide | omega) (by first | decide | omega) (by first | decide | omega)) rfl (fun t139 g139 k139 e139 => ?_)
        have k40 : ai_hv t139 399 15 = some (.inl 0) := (e139 399 15 (by first | decide | omega)).trans k34
        have k41 : ai_hv t139 399 0 = some (.inl m5) := (e139 399 0 (by first | decide | omega)).trans k35
        have k42 : ai_hv t139 399 11 = some (.inl m7) := (e139 399 11 (by first | decide | omega)).trans k36
        have k43 : ai_hv t139 399 7 = some (.inl (m14 - v109)) := (e139 399 7 (by first | decide | omega)).trans k37
        have E139 := px_E_st E133 e139 (by first | decide | omega) (by first | decide | omega)
        refine gx_incS (i := 3) (a := 0) (x := 1) rfl (fun _ => rfl) l23_3 (by first | decide | omega) rfl (fun l44 hl44 ml44 => ?_)
        have l44_0 : en_ld l44 0 = some (gx_r 383) := ml44 0 _ l23_0 rfl
        have l44_1 : en_ld l44 1 = some (.inl 0) := ml44 1 _ l23_1 rfl
        have l44_4 : en_ld l44 4 = some (.inl v109) := ml44 4 _ l23_4 rfl
        have l44_2 : en_ld l44 2 = some (.inl z22) := ml44 2 _ hl23 rfl
        refine ex_go (S := (4, l44, [], t139, n, 0)) rfl (fun _ => rfl) rfl ?_
        exact ps_c_0_1 hp _ _ t139 (by first | decide | omega) g139 E139 (fun c i h => (e139 c i (by first | decide | omega)).trans ((f133 c i (by first | decide | omega)).trans ((e118 c i (by first | decide | omega)).trans ((e109 c i (by first | decide | omega)).trans ((e104 c i (by first | decide | omega)).trans ((f101 c i (by first | decide | omega)).trans (e0 c i h))))))) l44_0 l44_1 l44_2 hl44
    · refine gx_2f (c := .le) rfl (by first | decide | omega) (by first | decide | omega) hc16 rfl ?_
      refine gx_ld (i := 0) (d := 2) (v := gx_r 383) rfl (fun _ => rfl) l13_0 rfl rfl ?_
      refine gx_ref (c := 399) rfl g109 rfl rfl rfl rfl ?_
      refine gx_ld (i := 1) (d := 0) (v := .inl 0) rfl (fun _ => rfl) l13_1 rfl rfl ?_
      refine ex_go (S := (73, l13, [.inl 7, .inl 0, gx_r 399], t109, n, 0)) rfl (fun _ => rfl) rfl ?_
      refine ex_go (S := (74, l13, [.inl 7, gx_r 399], t109, n, 0)) rfl (fun _ => rfl) rfl ?_
      refine gx_ld (i := 3) (d := 0) (v := .inl 0) rfl (fun _ => rfl) l13_3 rfl rfl ?_
      refine ex_go (S := (76, l13, [.inl 7, gx_r 399], t109, n, 0)) rfl (fun _ => rfl) rfl ?_
      refine gx_ag (v := .inl m14) (cb := fun c => Nat.beq c 0) rfl (fun _ => rfl) g109 rfl rfl k15 (by first | decide | omega) rfl ?_
      refine ex_go (S := (82, l13, [.inl m14], t109, n, 0)) rfl (fun _ => rfl) rfl ?_
      refine gx_sto (i := 4) (d := 0) rfl (fun _ => rfl) rfl rfl (fun l45 hl45 ml45 => ?_)
      have l45_0 : en_ld l45 0 = some (gx_r 383) := ml45 0 _ l13_0 rfl
      have l45_1 : en_ld l45 1 = some (.inl 0) := ml45 1 _ l13_1 rfl
      have l45_2 : en_ld l45 2 = some (.inl z) := ml45 2 _ l13_2 rfl
      have l45_3 : en_ld l45 3 = some (.inl 0) := ml45 3 _ l13_3 rfl
      refine gx_ld (i := 0) (d := 2) (v := gx_r 383) rfl (fun _ => rfl) l45_0 rfl rfl ?_
      refine gx_ref (c := 399) rfl g109 rfl rfl rfl rfl ?_
      refine gx_ld (i := 1) (d := 0) (v := .inl 0) rfl (fun _ => rfl) l45_1 rfl rfl ?_
      refine ex_go (S := (91, l45, [.inl 7, .inl 0, gx_r 399], t109, n, 0)) rfl (fun _ => rfl) rfl ?_
      refine ex_go (S := (92, l45, [.inl 7, gx_r 399], t109, n, 0)) rfl (fun _ => rfl) rfl ?_
      refine gx_ld (i := 3) (d := 0) (v := .inl 0) rfl (fun _ => rfl) l45_3 rfl rfl ?_
      refine ex_go (S := (94, l45, [.inl 7, gx_r 399], t109, n, 0)) rfl (fun _ => rfl) rfl ?_
      refine ex_go (S := (95, l45, [.inl 7, gx_r 399, .inl 7, gx_r 399], t109, n, 0)) rfl (fun _ => rfl) rfl ?_
      refine gx_ag (v := .inl m14) (cb := fun c => Nat.beq c 0) rfl (fun _ => rfl) g109 rfl rfl k15 (by first | decide | omega) rfl ?_
      refine gx_ld (i := 4) (d := 0) (v := .inl m14) rfl (fun _ => rfl) hl45 rfl rfl ?_
      refine gx_isub rfl (by first | decide | omega) (by first | decide | omega) rfl ?_
      refine gx_ap rfl (fun _ => rfl) g109 rfl rfl rfl (show 7 < 1035 from by omega) rfl (ai_in_h (by first | decide | omega) (by first | decide | omega) (by first | decide | omega)) rfl (fun t146 g146 k146 e146 => ?_)
      have k47 : ai_hv t146 399 15 = some (.inl 0) := (e146 399 15 (by first | decide | omega)).trans k10
      have k48 : ai_hv t146 399 0 = some (.inl m5) := (e146 399 0 (by first | decide | omega)).trans k11
      have k49 : ai_hv t146 399 11 = some (.inl m7) := (e146 399 11 (by first | decide | omega)).trans k12
      have E146 := px_E_bis (b := 0) (y := 7) E109 e146 k15 k146 (by decide) (by first | decide | omega) (by first | decide | omega)
      refine gx_ld (i := 2) (d := 0) (v := .inl z) rfl (fun _ => rfl) l45_2 rfl rfl ?_
      refine gx_ld (i := 4) (d := 0) (v := .inl m14) rfl (fun _ => rfl) hl45 rfl rfl ?_
      refine gx_iaddw rfl rfl (fun z50 z50b => ?_)
      refine gx_sto (i := 2) (d := 0) rfl (fun _ => rfl) rfl rfl (fun l51 hl51 ml51 => ?_)
      have l51_0 : en_ld l51 0 = some (gx_r 383) := ml51 0 _ l45_0 rfl
      have l51_1 : en_ld l51 1 = some (.inl 0) := ml51 1 _ l45_1 rfl
      have l51_3 : en_ld l51 3 = some (.inl 0) := ml51 3 _ l45_3 rfl
      have l51_4 : en_ld l51 4 = some (.inl m14) := ml51 4 _ hl45 rfl
      refine gx_ld (i := 0) (d := 2) (v := gx_r 383) rfl (fun _ => rfl) l51_0 rfl rfl ?_
      refine gx_ref (c := 399) rfl g146 rfl rfl rfl rfl ?_
      refine gx_ld (i := 1) (d := 0) (v := .inl 0) rfl (fun _ => rfl) l51_1 rfl rfl ?_
      refine ex_go (S := (112, l51, [.inl 13, .inl 0, gx_r 399], t146, n, 0)) rfl (fun _ => rfl) rfl ?_
      refine ex_go (S := (113, l51, [.inl 13, gx_r 399], t146, n, 0)) rfl (fun _ => rfl) rfl ?_
      refine gx_ld (i := 3) (d := 0) (v := .inl 0) rfl (fun _ => rfl) l51_3 rfl rfl ?_
      refine ex_go (S := (115, l51, [.inl 13, gx_r 399], t146, n, 0)) rfl (fun _ => rfl) rfl ?_
      refine gx_ld (i := 0) (d := 2) (v := gx_r 383) rfl (fun _ => rfl) l51_0 rfl rfl ?_
      refine gx_ref (c := 399) rfl g146 rfl rfl rfl rfl ?_
      refine gx_ld (i := 1) (d := 0) (v := .inl 0) rfl (fun _ => rfl) l51_1 rfl rfl ?_
      refine ex_go (S := (122, l51, [.inl 11, .inl 0, gx_r 399, .inl 13, gx_r 399], t146, n, 0)) rfl (fun _ => rfl) rfl ?_
      refine ex_go (S := (123, l51, [.inl 11, gx_r 399, .inl 13, gx_r 399], t146, n, 0)) rfl (fun _ => rfl) rfl ?_
      refine gx_ld (i := 3) (d := 0) (v := .inl 0) rfl (fun _ => rfl) l51_3 rfl rfl ?_
      refine ex_go (S := (125, l51, [.inl 11, gx_r 399, .inl 13, gx_r 399], t146, n, 0)) rfl (fun _ => rfl) rfl ?_
      refine gx_ag (v := .inl m7) (cb := fun c => Nat.beq c 0) rfl (fun _ => rfl) g146 rfl rfl k49 (by first | decide | omega) rfl ?_
      refine ex_go (S := (127, l51, [.inl 1, .inl m7, .inl 13, gx_r 399], t146, n, 0)) rfl (fun _ => rfl) rfl ?_
      by_cases hc52 : m7 ≠ 1
      · refine gx_2t (c := .ne) rfl (by first | decide | omega) (by first | decide | omega) hc52 rfl ?_
        refine ex_go (S := (149, l51, [.inl 0, .inl 13, gx_r 399], t146, n, 0)) rfl (fun _ => rfl) rfl ?_
        refine gx_ap rfl (fun _ => rfl) g146 rfl rfl rfl (show 13 < 1035 from by omega) rfl (ai_in_h (by first | decide | omega) (by first | decide | omega) (by first | decide | omega)) rfl (fun t153 g153 k153 e153 => ?_)
        have k54 : ai_hv t153 399 15 = some (.inl 0) := (e153 399 15 (by first | decide | omega)).trans k47
        have k55 : ai_hv t153 399 0 = some (.inl m5) := (e153 399 0 (by first | decide | omega)).trans k48
        have k56 : ai_hv t153 399 11 = some (.inl m7) := (e153 399 11 (by first | decide | omega)).trans k49
        have k57 : ai_hv t153 399 7 = some (.inl (m14 - m14)) := (e153 399 7 (by first | decide | omega)).trans k146
        have E153 := px_E_st E146 e153 (by first | decide | omega) (by first | decide | omega)
        refine gx_incS (i := 3) (a := 0) (x := 1) rfl (fun _ => rfl) l51_3 (by first | decide | omega) rfl (fun l58 hl58 ml58 => ?_)
        have l58_0 : en_ld l58 0 = some (gx_r 383) := ml58 0 _ l51_0 rfl
        have l58_1 : en_ld l58 1 = some (.inl 0) := ml58 1 _ l51_1 rfl
        have l58_4 : en_ld l58 4 = some (.inl m14) := ml58 4 _ l51_4 rfl
        have l58_2 : en_ld l58 2 = some (.inl z50) := ml58 2 _ hl51 rfl
        refine ex_go (S := (4, l58, [], t153, n, 0)) rfl (fun _ => rfl) rfl ?_
        exact ps_c_0_1 hp _ _ t153 (by first | decide | omega) g153 E153 (fun c i h => (e153 c i (by first | decide | omega)).trans ((e146 c i (by first | decide | omega)).trans ((e109 c i (by first | decide | omega)).trans ((e104 c i (by first | decide | omega)).trans ((f101 c i (by first | decide | omega)).trans (e0 c i h)))))) l58_0 l58_1 l58_2 hl58
      · refine gx_2f (c := .ne) rfl (by first | decide | omega) (by first | decide | omega) hc52 rfl ?_
        refine gx_ld (i := 0) (d := 2) (v := gx_r 383) rfl (fun _ => rfl) l51_0 rfl rfl ?_
        refine gx_ld (i := 0) (d := 2) (v := gx_r 383) rfl (fun _ => rfl) l51_0 rfl rfl ?_
        refine gx_ref (c := 399) rfl g146 rfl rfl rfl rfl ?_
        refine gx_ld (i := 1) (d := 0) (v := .inl 0) rfl (fun _ => rfl) l51_1 rfl rfl ?_
        refine ex_go (S := (138, l51, [.inl 13, .inl 0, gx_r 399, gx_r 383, .inl 13, gx_r 399], t146, n, 0)) rfl (fun _ => rfl) rfl ?_
        refine ex_go (S := (139, l51, [.inl 13, gx_r 399, gx_r 383, .inl 13, gx_r 399], t146, n, 0)) rfl (fun _ => rfl) rfl ?_
        refine gx_ld (i := 3) (d := 0) (v := .inl 0) rfl (fun _ => rfl) l51_3 rfl rfl ?_
        refine ex_go (S := (141, l51, [.inl 13, gx_r 399, gx_r 383, .inl 13, gx_r 399], t146, n, 0)) rfl (fun _ => rfl) rfl ?_
        obtain ⟨m59, k60, m59l, m59h⟩ := gx_in (c := 399) (i := 13) (lo := 0) (hi := 63) g146 rfl rfl rfl rfl
        refine gx_ag (v := .inl m59) (cb := fun c => Nat.beq c 0) rfl (fun _ => rfl) g146 rfl rfl k60 (by first | decide | omega) rfl ?_
        obtain ⟨v161, t161, r161, g161, E161, vb161, e161⟩ := hp.2.2.1 t146 n m59 g146 E146 (by first | decide | omega)
        refine gx_call1 rfl rfl g146 rfl rfl r161 rfl ?_
        have f161 : ∀ c i, ¬ (c = 0 ∧ c = 1) → ai_hv t161 c i = ai_hv t146 c i := fun c i _ => e161 c i
        have k62 : ai_hv t161 399 15 = some (.inl 0) := (f161 399 15 (by first | decide | omega)).trans k47
        have k63 : ai_hv t161 399 0 = some (.inl m5) := (f161 399 0 (by first | decide | omega)).trans k48
        have k64 : ai_hv t161 399 11 = some (.inl m7) := (f161 399 11 (by first | decide | omega)).trans k49
        have k65 : ai_hv t161 399 7 = some (.inl (m14 - m14)) := (f161 399 7 (by first | decide | omega)).trans k146
        have k66 : ai_hv t161 399 13 = some (.inl m59) := (f161 399 13 (by first | decide | omega)).trans k60
        refine ex_go (S := (149, l51, [.inl v161, .inl 13, gx_r 399], t161, n, 0)) rfl (fun _ => rfl) rfl ?_
        refine gx_ap rfl (fun _ => rfl) g161 rfl rfl rfl (show 13 < 1035 from by omega) rfl (ai_in_h (by first | decide | omega) (by first | decide | omega) (by first | decide | omega)) rfl (fun t167 g167 k167 e167 => ?_)
        have k68 : ai_hv t167 399 15 = some (.inl 0) := (e167 399 15 (by first | decide | omega)).trans k62
        have k69 : ai_hv t167 399 0 = some (.inl m5) := (e167 399 0 (by first | decide | omega)).trans k63
        have k70 : ai_hv t167 399 11 = some (.inl m7) := (e167 399 11 (by first | decide | omega)).trans k64
        have k71 : ai_hv t167 399 7 = some (.inl (m14 - m14)) := (e167 399 7 (by first | decide | omega)).trans k65
        have E167 := px_E_st E161 e167 (by first | decide | omega) (by first | decide | omega)
        refine gx_incS (i := 3) (a := 0) (x := 1) rfl (fun _ => rfl) l51_3 (by first | decide | omega) rfl (fun l72 hl72 ml72 => ?_)
        have l72_0 : en_ld l72 0 = some (gx_r 383) := ml72 0 _ l51_0 rfl
        have l72_1 : en_ld l72 1 = some (.inl 0) := ml72 1 _ l51_1 rfl
        have l72_4 : en_ld l72 4 = some (.inl m14) := ml72 4 _ l51_4 rfl
        have l72_2 : en_ld l72 2 = some (.inl z50) := ml72 2 _ hl51 rfl
        refine ex_go (S := (4, l72, [], t167, n, 0)) rfl (fun _ => rfl) rfl ?_
        exact ps_c_0_1 hp _ _ t167 (by first | decide | omega) g167 E167 (fun c i h => (e167 c i (by first | decide | omega)).trans ((f161 c i (by first | decide | omega)).trans ((e146 c i (by first | decide | omega)).trans ((e109 c i (by first | decide | omega)).trans ((e104 c i (by first | decide | omega)).trans ((f101 c i (by first | decide | omega)).trans (e0 c i h))))))) l72_0 l72_1 l72_2 hl72
theorem pk_passes0 (d n : Nat) {tb : en_H} (hp : gx_pass (en_u d)) (g0 : ai_HG ah_G tb) (hE : ai_E tb) : ∃ r, en_u (d + 1) 116 [gx_r 383, .inl 0] tb n = some r ∧ ∃ v t', r = (some (.inl v), t', n, 0) ∧ v < 4294967296 ∧ ai_HG ah_G t' ∧ ai_E t' ∧ (∀ c i, ¬ ((c = 397 ∧ i ≤ 3) ∨ (c = 398 ∧ i ≤ 1099) ∨ (c = 399 ∧ i ≤ 1034)) → ai_hv t' c i = ai_hv tb c i) := by
  refine en_u_ex rfl ?_
  show en_ex _ _ _ _ (0, [(0, gx_r 383), (1, .inl 0)], [], tb, n, 0) _
  refine ex_go (S := (1, [(0, gx_r 383), (1, .inl 0)], [.inl 0], tb, n, 0)) rfl (fun _ => rfl) rfl ?_
  refine ex_go (S := (2, [(2, .inl 0), (0, gx_r 383), (1, .inl 0)], [], tb, n, 0)) rfl (fun _ => rfl) rfl ?_
  refine ex_go (S := (3, [(2, .inl 0), (0, gx_r 383), (1, .inl 0)], [.inl 0], tb, n, 0)) rfl (fun _ => rfl) rfl ?_
  refine ex_go (S := (4, [(3, .inl 0), (2, .inl 0), (0, gx_r 383), (1, .inl 0)], [], tb, n, 0)) rfl (fun _ => rfl) rfl ?_
  exact ps_c_0_0 hp 0 _ tb (by first | decide | omega) g0 hE (fun c i h => rfl) rfl rfl rfl rfl
theorem pl_run_945 {i : Nat} (k : Nat) (hk : k < 6) (e : i = 946 + 1 * k) : ai_run ah_399.2.2.2 i = some (.inl (2147483648, 2147483711)) := gx_at (by decide +kernel) k hk e
set_option maxRecDepth 100000 in
theorem ps_t_945 {fn : en_F} (hp : gx_pass fn) {n : Nat} {tb : en_H} : ∀ j k z cl t0, k + j = 6 → z < 4294967296 → ai_HG ah_G t0 → ai_E t0 → (∀ c i, ¬ ((c = 397 ∧ i ≤ 3) ∨ (c = 398 ∧ i ≤ 1099) ∨ (c = 399 ∧ 945 ≤ i ∧ i ≤ 1034)) → ai_hv t0 c i = ai_hv tb c i) → en_ld cl 0 = some (gx_r 383) → en_ld cl 1 = some (.inl 945) → en_ld cl 2 = some (.inl z) → en_ld cl 3 = some (.inl k) → en_ex none fn (en_code 116) (fun _ => false) (158, cl, [], t0, n, 0) (fun o => ∃ r, o = .inl r ∧ ∃ v t', r = (some (.inl v), t', n, 0) ∧ v < 4294967296 ∧ ai_HG ah_G t' ∧ ai_E t' ∧ (∀ c i, ¬ ((c = 397 ∧ i ≤ 3) ∨ (c = 398 ∧ i ≤ 1099) ∨ (c = 399 ∧ 945 ≤ i ∧ i ≤ 1034)) → ai_hv t' c i = ai_hv tb c i)) := by
  intro j
  induction j with
  | zero =>
    intro k z cl t0 hk hz g0 E0 e0 h0 h1 h2 h3
    refine gx_ld (i := 3) (d := 0) (v := .inl k) rfl (fun _ => rfl) h3 rfl rfl ?_
    refine gx_ld (i := 0) (d := 2) (v := gx_r 383) rfl (fun _ => rfl) h0 rfl rfl ?_
    obtain ⟨v101, t101, r101, g101, E101, vb101, e101⟩ := hp.2.1 t0 n  g0 E0 
    refine gx_call1 rfl rfl g0 rfl rfl r101 rfl ?_
    have f101 : ∀ c i, ¬ (c = 0 ∧ c = 1) → ai_hv t101 c i = ai_hv t0 c i := fun c i _ => e101 c i
    refine gx_2t (c := .ge) rfl (by first | decide | omega) (by first | decide | omega) (show v101 ≤ k from by omega) rfl ?_
    refine gx_ld (i := 0) (d := 2) (v := gx_r 383) rfl (fun _ => rfl) h0 rfl rfl ?_
    refine gx_ref (c := 399) rfl g101 rfl rfl rfl rfl ?_
    refine gx_ld (i := 1) (d := 0) (v := .inl 945) rfl (fun _ => rfl) h1 rfl rfl ?_
    refine ex_go (S := (202, cl, [.inl 0, .inl 945, gx_r 399], t101, n, 0)) rfl (fun _ => rfl) rfl ?_
    refine ex_go (S := (203, cl, [.inl 945, gx_r 399], t101, n, 0)) rfl (fun _ => rfl) rfl ?_
    refine ex_go (S := (204, cl, [.inl 945, gx_r 399, .inl 945, gx_r 399], t101, n, 0)) rfl (fun _ => rfl) rfl ?_
    obtain ⟨m2, k3, m2b⟩ := gx_any (c := 399) (i := 945) g101 rfl rfl rfl
    refine gx_ag (v := .inl m2) (cb := fun c => Nat.beq c 0) rfl (fun _ => rfl) g101 rfl rfl k3 (by first | decide | omega) rfl ?_
    refine ex_go (S := (206, cl, [.inl 1, .inl m2, .inl 945, gx_r 399], t101, n, 0)) rfl (fun _ => rfl) rfl ?_
    refine gx_iaddw rfl rfl (fun z4 z4b => ?_)
    refine gx_ap rfl (fun _ => rfl) g101 rfl rfl rfl (show 945 < 1035 from by omega) rfl (gx_full (by first | decide | omega)) rfl (fun t105 g105 k105 e105 => ?_)
    have E105 := px_E_st E101 e105 (by first | decide | omega) (by first | decide | omega)
    refine gx_ld (i := 2) (d := 0) (v := .inl z) rfl (fun _ => rfl) h2 rfl rfl ?_
    refine ex_ret (r := (some (.inl z), t105, n, 0)) rfl (fun _ => rfl) ?_
    exact ⟨_, rfl, z, t105, rfl, by omega, g105, E105, (fun c i h => (e105 c i (by first | decide | omega)).trans ((f101 c i (by first | decide | omega)).trans (e0 c i h)))⟩
  | succ j ih =>
    intro k z cl t0 hk hz g0 E0 e0 h0 h1 h2 h3
    refine gx_ld (i := 3) (d := 0) (v := .inl k) rfl (fun _ => rfl) h3 rfl rfl ?_
    refine gx_ld (i := 0) (d := 2) (v := gx_r 383) rfl (fun _ => rfl) h0 rfl rfl ?_
    obtain ⟨v101, t101, r101, g101, E101, vb101, e101⟩ := hp.2.1 t0 n  g0 E0 
    refine gx_call1 rfl rfl g0 rfl rfl r101 rfl ?_
    have f101 : ∀ c i, ¬ (c = 0 ∧ c = 1) → ai_hv t101 c i = ai_hv t0 c i := fun c i _ => e101 c i
    by_cases hc2 : v101 ≤ k
    · refine gx_2t (c := .ge) rfl (by first | decide | omega) (by first | decide | omega) hc2 rfl ?_
      refine gx_ld (i := 0) (d := 2) (v := gx_r 383) rfl (fun _ => rfl) h0 rfl rfl ?_
      refine gx_ref (c := 399) rfl g101 rfl rfl rfl rfl ?_
      refine gx_ld (i := 1) (d := 0) (v := .inl 945) rfl (fun _ => rfl) h1 rfl rfl ?_
      refine ex_go (S := (202, cl, [.inl 0, .inl 945, gx_r 399], t101, n, 0)) rfl (fun _ => rfl) rfl ?_
      refine ex_go (S := (203, cl, [.inl 945, gx_r 399], t101, n, 0)) rfl (fun _ => rfl) rfl ?_
      refine ex_go (S := (204, cl, [.inl 945, gx_r 399, .inl 945, gx_r 399], t101, n, 0)) rfl (fun _ => rfl) rfl ?_
      obtain ⟨m3, k4, m3b⟩ := gx_any (c := 399) (i := 945) g101 rfl rfl rfl
      refine gx_ag (v := .inl m3) (cb := fun c => Nat.beq c 0) rfl (fun _ => rfl) g101 rfl rfl k4 (by first | decide | omega) rfl ?_
      refine ex_go (S := (206, cl, [.inl 1, .inl m3, .inl 945, gx_r 399], t101, n, 0)) rfl (fun _ => rfl) rfl ?_
      refine gx_iaddw rfl rfl (fun z5 z5b => ?_)
      refine gx_ap rfl (fun _ => rfl) g101 rfl rfl rfl (show 945 < 1035 from by omega) rfl (gx_full (by first | decide | omega)) rfl (fun t106 g106 k106 e106 => ?_)
      have E106 := px_E_st E101 e106 (by first | decide | omega) (by first | decide | omega)
      refine gx_ld (i := 2) (d := 0) (v := .inl z) rfl (fun _ => rfl) h2 rfl rfl ?_
      refine ex_ret (r := (some (.inl z), t106, n, 0)) rfl (fun _ => rfl) ?_
      exact ⟨_, rfl, z, t106, rfl, by omega, g106, E106, (fun c i h => (e106 c i (by first | decide | omega)).trans ((f101 c i (by first | decide | omega)).trans (e0 c i h)))⟩
    · refine gx_2f (c := .ge) rfl (by first | decide | omega) (by first | decide | omega) hc2 rfl ?_
      refine gx_ld (i := 0) (d := 2) (v := gx_r 383) rfl (fun _ => rfl) h0 rfl rfl ?_
      refine gx_ref (c := 399) rfl g101 rfl rfl rfl rfl ?_
      refine gx_ld (i := 1) (d := 0) (v := .inl 945) rfl (fun _ => rfl) h1 rfl rfl ?_
      refine ex_go (S := (172, cl, [.inl 1, .inl 945, gx_r 399], t101, n, 0)) rfl (fun _ => rfl) rfl ?_
      refine ex_go (S := (173, cl, [.inl 946, gx_r 399], t101, n, 0)) rfl (fun _ => rfl) rfl ?_
      refine gx_ld (i := 3) (d := 0) (v := .inl k) rfl (fun _ => rfl) h3 rfl rfl ?_
      refine ex_iadd rfl (by first | decide | omega) rfl ?_
      refine gx_ld (i := 0) (d := 2) (v := gx_r 383) rfl (fun _ => rfl) h0 rfl rfl ?_
      refine gx_ld (i := 0) (d := 2) (v := gx_r 383) rfl (fun _ => rfl) h0 rfl rfl ?_
      refine gx_ref (c := 399) rfl g101 rfl rfl rfl rfl ?_
      refine gx_ld (i := 1) (d := 0) (v := .inl 945) rfl (fun _ => rfl) h1 rfl rfl ?_
      refine ex_go (S := (182, cl, [.inl 1, .inl 945, gx_r 399, gx_r 383, .inl (946 + k), gx_r 399], t101, n, 0)) rfl (fun _ => rfl) rfl ?_
      refine ex_go (S := (183, cl, [.inl 946, gx_r 399, gx_r 383, .inl (946 + k), gx_r 399], t101, n, 0)) rfl (fun _ => rfl) rfl ?_
      refine gx_ld (i := 3) (d := 0) (v := .inl k) rfl (fun _ => rfl) h3 rfl rfl ?_
      refine ex_iadd rfl (by first | decide | omega) rfl ?_
      obtain ⟨m7, k8, m7l, m7h⟩ := gx_inb (c := 399) (i := 946 + k) (lo := 0) (hi := 63) g101 rfl (show 946 + k < 1035 from by omega) (pl_run_945 k (by first | decide | omega) (by first | decide | omega)) (by decide) (by decide) rfl
      refine gx_ag (v := .inl m7) (cb := fun c => Nat.beq c 0) rfl (fun _ => rfl) g101 rfl rfl k8 (by first | decide | omega) rfl ?_
      obtain ⟨v109, t109, r109, g109, E109, vb109, e109⟩ := hp.2.2.1 t101 n m7 g101 E101 (by first | decide | omega)
      refine gx_call1 rfl rfl g101 rfl rfl r109 rfl ?_
      have f109 : ∀ c i, ¬ (c = 0 ∧ c = 1) → ai_hv t109 c i = ai_hv t101 c i := fun c i _ => e109 c i
      have k10 : ai_hv t109 399 (946 + k) = some (.inl m7) := (f109 399 (946 + k) (by first | decide | omega)).trans k8
      refine gx_ap rfl (fun _ => rfl) g109 rfl rfl rfl (show 946 + k < 1035 from by omega) (pl_run_945 k (by first | decide | omega) (by first | decide | omega)) (ai_in_h (by first | decide | omega) (by first | decide | omega) (by first | decide | omega)) rfl (fun t111 g111 k111 e111 => ?_)
      have E111 := px_E_st E109 e111 (by first | decide | omega) (by first | decide | omega)
      refine gx_incS (i := 3) (a := k) (x := 1) rfl (fun _ => rfl) h3 (by first | decide | omega) rfl (fun l12 hl12 ml12 => ?_)
      have l12_0 : en_ld l12 0 = some (gx_r 383) := ml12 0 _ h0 rfl
      have l12_1 : en_ld l12 1 = some (.inl 945) := ml12 1 _ h1 rfl
      have l12_2 : en_ld l12 2 = some (.inl z) := ml12 2 _ h2 rfl
      refine ex_go (S := (158, l12, [], t111, n, 0)) rfl (fun _ => rfl) rfl ?_
      exact ih (k + 1) z _ t111 (by first | decide | omega) hz g111 E111 (fun c i h => (e111 c i (by first | decide | omega)).trans ((f109 c i (by first | decide | omega)).trans ((f101 c i (by first | decide | omega)).trans (e0 c i h)))) l12_0 l12_1 l12_2 hl12
set_option maxRecDepth 100000 in
theorem ps_c_945_2 {fn : en_F} (hp : gx_pass fn) {n : Nat} {tb : en_H} (z : Nat) (cl : en_L) (t0 : en_H) (hz : z < 4294967296) (g0 : ai_HG ah_G t0) (E0 : ai_E t0) (e0 : (∀ c i, ¬ ((c = 397 ∧ i ≤ 3) ∨ (c = 398 ∧ i ≤ 1099) ∨ (c = 399 ∧ 945 ≤ i ∧ i ≤ 1034)) → ai_hv t0 c i = ai_hv tb c i)) (h0 : en_ld cl 0 = some (gx_r 383)) (h1 : en_ld cl 1 = some (.inl 945)) (h2 : en_ld cl 2 = some (.inl z)) (h3 : en_ld cl 3 = some (.inl 2)) : en_ex none fn (en_code 116) (fun _ => false) (4, cl, [], t0, n, 0) (fun o => ∃ r, o = .inl r ∧ ∃ v t', r = (some (.inl v), t', n, 0) ∧ v < 4294967296 ∧ ai_HG ah_G t' ∧ ai_E t' ∧ (∀ c i, ¬ ((c = 397 ∧ i ≤ 3) ∨ (c = 398 ∧ i ≤ 1099) ∨ (c = 399 ∧ 945 ≤ i ∧ i ≤ 1034)) → ai_hv t' c i = ai_hv tb c i)) := by
  refine gx_ld (i := 3) (d := 0) (v := .inl 2) rfl (fun _ => rfl) h3 rfl rfl ?_
  refine gx_ld (i := 0) (d := 2) (v := gx_r 383) rfl (fun _ => rfl) h0 rfl rfl ?_
  obtain ⟨v101, t101, r101, g101, E101, vb101, e101⟩ := hp.1 t0 n  g0 E0 
  refine gx_call1 rfl rfl g0 rfl rfl r101 rfl ?_
  have f101 : ∀ c i, ¬ (c = 0 ∧ c = 1) → ai_hv t101 c i = ai_hv t0 c i := fun c i _ => e101 c i
  refine gx_2t (c := .ge) rfl (by first | decide | omega) (by first | decide | omega) (show v101 ≤ 2 from by omega) rfl ?_
  refine ex_go (S := (157, cl, [.inl 0], t101, n, 0)) rfl (fun _ => rfl) rfl ?_
  refine gx_sto (i := 3) (d := 0) rfl (fun _ => rfl) rfl rfl (fun l2 hl2 ml2 => ?_)
  have l2_0 : en_ld l2 0 = some (gx_r 383) := ml2 0 _ h0 rfl
  have l2_1 : en_ld l2 1 = some (.inl 945) := ml2 1 _ h1 rfl
  have l2_2 : en_ld l2 2 = some (.inl z) := ml2 2 _ h2 rfl
  exact ps_t_945 hp 6 0 _ _ t101 (by first | decide | omega) (by first | decide | omega) g101 E101 (fun c i h => (f101 c i (by first | decide | omega)).trans (e0 c i h)) l2_0 l2_1 l2_2 hl2
set_option maxRecDepth 100000 in
theorem ps_c_945_1 {fn : en_F} (hp : gx_pass fn) {n : Nat} {tb : en_H} (z : Nat) (cl : en_L) (t0 : en_H) (hz : z < 4294967296) (g0 : ai_HG ah_G t0) (E0 : ai_E t0) (e0 : (∀ c i, ¬ ((c = 397 ∧ i ≤ 3) ∨ (c = 398 ∧ i ≤ 1099) ∨ (c = 399 ∧ 945 ≤ i ∧ i ≤ 1034)) → ai_hv t0 c i = ai_hv tb c i)) (h0 : en_ld cl 0 = some (gx_r 383)) (h1 : en_ld cl 1 = some (.inl 945)) (h2 : en_ld cl 2 = some (.inl z)) (h3 : en_ld cl 3 = some (.inl 1)) : en_ex none fn (en_code 116) (fun _ => false) (4, cl, [], t0, n, 0) (fun o => ∃ r, o = .inl r ∧ ∃ v t', r = (some (.inl v), t', n, 0) ∧ v < 4294967296 ∧ ai_HG ah_G t' ∧ ai_E t' ∧ (∀ c i, ¬ ((c = 397 ∧ i ≤ 3) ∨ (c = 398 ∧ i ≤ 1099) ∨ (c = 399 ∧ 945 ≤ i ∧ i ≤ 1034)) → ai_hv t' c i = ai_hv tb c i)) := by
  refine gx_ld (i := 3) (d := 0) (v := .inl 1) rfl (fun _ => rfl) h3 rfl rfl ?_
  refine gx_ld (i := 0) (d := 2) (v := gx_r 383) rfl (fun _ => rfl) h0 rfl rfl ?_
  obtain ⟨v101, t101, r101, g101, E101, vb101, e101⟩ := hp.1 t0 n  g0 E0 
  refine gx_call1 rfl rfl g0 rfl rfl r101 rfl ?_
  have f101 : ∀ c i, ¬ (c = 0 ∧ c = 1) → ai_hv t101 c i = ai_hv t0 c i := fun c i _ => e101 c i
  by_cases hc2 : v101 ≤ 1
  · refine gx_2t (c := .ge) rfl (by first | decide | omega) (by first | decide | omega) hc2 rfl ?_
    refine ex_go (S := (157, cl, [.inl 0], t101, n, 0)) rfl (fun _ => rfl) rfl ?_
    refine gx_sto (i := 3) (d := 0) rfl (fun _ => rfl) rfl rfl (fun l3 hl3 ml3 => ?_)
    have l3_0 : en_ld l3 0 = some (gx_r 383) := ml3 0 _ h0 rfl
    have l3_1 : en_ld l3 1 = some (.inl 945) := ml3 1 _ h1 rfl
    have l3_2 : en_ld l3 2 = some (.inl z) := ml3 2 _ h2 rfl
    exact ps_t_945 hp 6 0 _ _ t101 (by first | decide | omega) (by first | decide | omega) g101 E101 (fun c i h => (f101 c i (by first | decide | omega)).trans (e0 c i h)) l3_0 l3_1 l3_2 hl3
  · refine gx_2f (c := .ge) rfl (by first | decide | omega) (by first | decide | omega) hc2 rfl ?_
    refine gx_ld (i := 0) (d := 2) (v := gx_r 383) rfl (fun _ => rfl) h0 rfl rfl ?_
    refine gx_ref (c := 399) rfl g101 rfl rfl rfl rfl ?_
    refine gx_ld (i := 1) (d := 0) (v := .inl 945) rfl (fun _ => rfl) h1 rfl rfl ?_
    refine ex_go (S := (19, cl, [.inl 15, .inl 945, gx_r 399], t101, n, 0)) rfl (fun _ => rfl) rfl ?_
    refine ex_go (S := (20, cl, [.inl 960, gx_r 399], t101, n, 0)) rfl (fun _ => rfl) rfl ?_
    refine gx_ld (i := 3) (d := 0) (v := .inl 1) rfl (fun _ => rfl) h3 rfl rfl ?_
    refine ex_go (S := (22, cl, [.inl 961, gx_r 399], t101, n, 0)) rfl (fun _ => rfl) rfl ?_
    refine ex_go (S := (23, cl, [.inl 0, .inl 961, gx_r 399], t101, n, 0)) rfl (fun _ => rfl) rfl ?_
    refine gx_ap rfl (fun _ => rfl) g101 rfl rfl rfl (show 961 < 1035 from by omega) rfl (ai_in_h (by first | decide | omega) (by first | decide | omega) (by first | decide | omega)) rfl (fun t104 g104 k104 e104 => ?_)
    have E104 := px_E_st E101 e104 (by first | decide | omega) (by first | decide | omega)
    refine gx_ld (i := 0) (d := 2) (v := gx_r 383) rfl (fun _ => rfl) h0 rfl rfl ?_
    refine gx_ld (i := 3) (d := 0) (v := .inl 1) rfl (fun _ => rfl) h3 rfl rfl ?_
    refine gx_ld (i := 0) (d := 2) (v := gx_r 383) rfl (fun _ => rfl) h0 rfl rfl ?_
    refine gx_ref (c := 399) rfl g104 rfl rfl rfl rfl ?_
    refine gx_ld (i := 1) (d := 0) (v := .inl 945) rfl (fun _ => rfl) h1 rfl rfl ?_
    refine ex_go (S := (32, cl, [.inl 0, .inl 945, gx_r 399, .inl 1, gx_r 383], t104, n, 0)) rfl (fun _ => rfl) rfl ?_
    refine ex_go (S := (33, cl, [.inl 945, gx_r 399, .inl 1, gx_r 383], t104, n, 0)) rfl (fun _ => rfl) rfl ?_
    obtain ⟨m5, k6, m5b⟩ := gx_any (c := 399) (i := 945) g104 rfl rfl rfl
    refine gx_ag (v := .inl m5) (cb := fun c => Nat.beq c 0) rfl (fun _ => rfl) g104 rfl rfl k6 (by first | decide | omega) rfl ?_
    refine gx_ld (i := 0) (d := 2) (v := gx_r 383) rfl (fun _ => rfl) h0 rfl rfl ?_
    refine gx_ref (c := 399) rfl g104 rfl rfl rfl rfl ?_
    refine gx_ld (i := 1) (d := 0) (v := .inl 945) rfl (fun _ => rfl) h1 rfl rfl ?_
    refine ex_go (S := (41, cl, [.inl 11, .inl 945, gx_r 399, .inl m5, .inl 1, gx_r 383], t104, n, 0)) rfl (fun _ => rfl) rfl ?_
    refine ex_go (S := (42, cl, [.inl 956, gx_r 399, .inl m5, .inl 1, gx_r 383], t104, n, 0)) rfl (fun _ => rfl) rfl ?_
    refine gx_ld (i := 3) (d := 0) (v := .inl 1) rfl (fun _ => rfl) h3 rfl rfl ?_
    refine ex_go (S := (44, cl, [.inl 957, gx_r 399, .inl m5, .inl 1, gx_r 383], t104, n, 0)) rfl (fun _ => rfl) rfl ?_
    obtain ⟨m7, k8, m7l, m7h⟩ := gx_in (c := 399) (i := 957) (lo := 0) (hi := 1) g104 rfl rfl rfl rfl
    refine gx_ag (v := .inl m7) (cb := fun c => Nat.beq c 0) rfl (fun _ => rfl) g104 rfl rfl k8 (by first | decide | omega) rfl ?_
    obtain ⟨v109, t109, r109, g109, E109, vb109, e109⟩ := hp.2.2.2 t104 n 1 m5 m7 g104 E104 (by first | decide | omega) (by first | decide | omega) (by first | decide | omega)
    refine gx_call1 rfl rfl g104 rfl rfl r109 rfl ?_
    have k10 : ai_hv t109 399 961 = some (.inl 0) := (e109 399 961 (by first | decide | omega)).trans k104
    have k11 : ai_hv t109 399 945 = some (.inl m5) := (e109 399 945 (by first | decide | omega)).trans k6
    have k12 : ai_hv t109 399 957 = some (.inl m7) := (e109 399 957 (by first | decide | omega)).trans k8
    refine gx_sto (i := 4) (d := 0) rfl (fun _ => rfl) rfl rfl (fun l13 hl13 ml13 => ?_)
    have l13_0 : en_ld l13 0 = some (gx_r 383) := ml13 0 _ h0 rfl
    have l13_1 : en_ld l13 1 = some (.inl 945) := ml13 1 _ h1 rfl
    have l13_2 : en_ld l13 2 = some (.inl z) := ml13 2 _ h2 rfl
    have l13_3 : en_ld l13 3 = some (.inl 1) := ml13 3 _ h3 rfl
    refine gx_ld (i := 4) (d := 0) (v := .inl v109) rfl (fun _ => rfl) hl13 rfl rfl ?_
    refine gx_ld (i := 0) (d := 2) (v := gx_r 383) rfl (fun _ => rfl) l13_0 rfl rfl ?_
    refine gx_ref (c := 399) rfl g109 rfl rfl rfl rfl ?_
    refine gx_ld (i := 1) (d := 0) (v := .inl 945) rfl (fun _ => rfl) l13_1 rfl rfl ?_
    refine ex_go (S := (59, l13, [.inl 7, .inl 945, gx_r 399, .inl v109], t109, n, 0)) rfl (fun _ => rfl) rfl ?_
    refine ex_go (S := (60, l13, [.inl 952, gx_r 399, .inl v109], t109, n, 0)) rfl (fun _ => rfl) rfl ?_
    refine gx_ld (i := 3) (d := 0) (v := .inl 1) rfl (fun _ => rfl) l13_3 rfl rfl ?_
    refine ex_go (S := (62, l13, [.inl 953, gx_r 399, .inl v109], t109, n, 0)) rfl (fun _ => rfl) rfl ?_
    obtain ⟨m14, k15, m14l, m14h⟩ := gx_in (c := 399) (i := 953) (lo := 0) (hi := 19998) g109 rfl rfl rfl rfl
    refine gx_ag (v := .inl m14) (cb := fun c => Nat.beq c 0) rfl (fun _ => rfl) g109 rfl rfl k15 (by first | decide | omega) rfl ?_
    by_cases hc16 : v109 ≤ m14
    · refine gx_2t (c := .le) rfl (by first | decide | omega) (by first | decide | omega) hc16 rfl ?_
      refine gx_ld (i := 4) (d := 0) (v := .inl v109) rfl (fun _ => rfl) hl13 rfl rfl ?_
      refine gx_sto (i := 4) (d := 0) rfl (fun _ => rfl) rfl rfl (fun l17 hl17 ml17 => ?_)
      have l17_0 : en_ld l17 0 = some (gx_r 383) := ml17 0 _ l13_0 rfl
      have l17_1 : en_ld l17 1 = some (.inl 945) := ml17 1 _ l13_1 rfl
      have l17_2 : en_ld l17 2 = some (.inl z) := ml17 2 _ l13_2 rfl
      have l17_3 : en_ld l17 3 = some (.inl 1) := ml17 3 _ l13_3 rfl
      refine gx_ld (i := 0) (d := 2) (v := gx_r 383) rfl (fun _ => rfl) l17_0 rfl rfl ?_
      refine gx_ref (c := 399) rfl g109 rfl rfl rfl rfl ?_
      refine gx_ld (i := 1) (d := 0) (v := .inl 945) rfl (fun _ => rfl) l17_1 rfl rfl ?_
      refine ex_go (S := (91, l17, [.inl 7, .inl 945, gx_r 399], t109, n, 0)) rfl (fun _ => rfl) rfl ?_
      refine ex_go (S := (92, l17, [.inl 952, gx_r 399], t109, n, 0)) rfl (fun _ => rfl) rfl ?_
      refine gx_ld (i := 3) (d := 0) (v := .inl 1) rfl (fun _ => rfl) l17_3 rfl rfl ?_
      refine ex_go (S := (94, l17, [.inl 953, gx_r 399], t109, n, 0)) rfl (fun _ => rfl) rfl ?_
      refine ex_go (S := (95, l17, [.inl 953, gx_r 399, .inl 953, gx_r 399], t109, n, 0)) rfl (fun _ => rfl) rfl ?_
      refine gx_ag (v := .inl m14) (cb := fun c => Nat.beq c 0) rfl (fun _ => rfl) g109 rfl rfl k15 (by first | decide | omega) rfl ?_
      refine gx_ld (i := 4) (d := 0) (v := .inl v109) rfl (fun _ => rfl) hl17 rfl rfl ?_
      refine gx_isub rfl (by first | decide | omega) (by first | decide | omega) rfl ?_
      refine gx_ap rfl (fun _ => rfl) g109 rfl rfl rfl (show 953 < 1035 from by omega) rfl (ai_in_h (by first | decide | omega) (by first | decide | omega) (by first | decide | omega)) rfl (fun t118 g118 k118 e118 => ?_)
      have k19 : ai_hv t118 399 961 = some (.inl 0) := (e118 399 961 (by first | decide | omega)).trans k10
      have k20 : ai_hv t118 399 945 = some (.inl m5) := (e118 399 945 (by first | decide | omega)).trans k11
      have k21 : ai_hv t118 399 957 = some (.inl m7) := (e118 399 957 (by first | decide | omega)).trans k12
      have E118 := px_E_bis (b := 21) (y := 8) E109 e118 k15 k118 (by decide) (by first | decide | omega) (by first | decide | omega)
      refine gx_ld (i := 2) (d := 0) (v := .inl z) rfl (fun _ => rfl) l17_2 rfl rfl ?_
      refine gx_ld (i := 4) (d := 0) (v := .inl v109) rfl (fun _ => rfl) hl17 rfl rfl ?_
      refine gx_iaddw rfl rfl (fun z22 z22b => ?_)
      refine gx_sto (i := 2) (d := 0) rfl (fun _ => rfl) rfl rfl (fun l23 hl23 ml23 => ?_)
      have l23_0 : en_ld l23 0 = some (gx_r 383) := ml23 0 _ l17_0 rfl
      have l23_1 : en_ld l23 1 = some (.inl 945) := ml23 1 _ l17_1 rfl
      have l23_3 : en_ld l23 3 = some (.inl 1) := ml23 3 _ l17_3 rfl
      have l23_4 : en_ld l23 4 = some (.inl v109) := ml23 4 _ hl17 rfl
      refine gx_ld (i := 0) (d := 2) (v := gx_r 383) rfl (fun _ => rfl) l23_0 rfl rfl ?_
      refine gx_ref (c := 399) rfl g118 rfl rfl rfl rfl ?_
      refine gx_ld (i := 1) (d := 0) (v := .inl 945) rfl (fun _ => rfl) l23_1 rfl rfl ?_
      refine ex_go (S := (112, l23, [.inl 13, .inl 945, gx_r 399], t118, n, 0)) rfl (fun _ => rfl) rfl ?_
      refine ex_go (S := (113, l23, [.inl 958, gx_r 399], t118, n, 0)) rfl (fun _ => rfl) rfl ?_
      refine gx_ld (i := 3) (d := 0) (v := .inl 1) rfl (fun _ => rfl) l23_3 rfl rfl ?_
      refine ex_go (S := (115, l23, [.inl 959, gx_r 399], t118, n, 0)) rfl (fun _ => rfl) rfl ?_
      refine gx_ld (i := 0) (d := 2) (v := gx_r 383) rfl (fun _ => rfl) l23_0 rfl rfl ?_
      refine gx_ref (c := 399) rfl g118 rfl rfl rfl rfl ?_
      refine gx_ld (i := 1) (d := 0) (v := .inl 945) rfl (fun _ => rfl) l23_1 rfl rfl ?_
      refine ex_go (S := (122, l23, [.inl 11, .inl 945, gx_r 399, .inl 959, gx_r 399], t118, n, 0)) rfl (fun _ => rfl) rfl ?_
      refine ex_go (S := (123, l23, [.inl 956, gx_r 399, .inl 959, gx_r 399], t118, n, 0)) rfl (fun _ => rfl) rfl ?_
      refine gx_ld (i := 3) (d := 0) (v := .inl 1) rfl (fun _ => rfl) l23_3 rfl rfl ?_
      refine ex_go (S := (125, l23, [.inl 957, gx_r 399, .inl 959, gx_r 399], t118, n, 0)) rfl (fun _ => rfl) rfl ?_
      refine gx_ag (v := .inl m7) (cb := fun c => Nat.beq c 0) rfl (fun _ => rfl) g118 rfl rfl k21 (by first | decide | omega) rfl ?_
      refine ex_go (S := (127, l23, [.inl 1, .inl m7, .inl 959, gx_r 399], t118, n, 0)) rfl (fun _ => rfl) rfl ?_
      by_cases hc24 : m7 ≠ 1
      · refine gx_2t (c := .ne) rfl (by first | decide | omega) (by first | decide | omega) hc24 rfl ?_
        refine ex_go (S := (149, l23, [.inl 0, .inl 959, gx_r 399], t118, n, 0)) rfl (fun _ => rfl) rfl ?_
        refine gx_ap rfl (fun _ => rfl) g118 rfl rfl rfl (show 959 < 1035 from by omega) rfl (ai_in_h (by first | decide | omega) (by first | decide | omega) (by first | decide | omega)) rfl (fun t125 g125 k125 e125 => ?_)
        have k26 : ai_hv t125 399 961 = some (.inl 0) := (e125 399 961 (by first | decide | omega)).trans k19
        have k27 : ai_hv t125 399 945 = some (.inl m5) := (e125 399 945 (by first | decide | omega)).trans k20
        have k28 : ai_hv t125 399 957 = some (.inl m7) := (e125 399 957 (by first | decide | omega)).trans k21
        have k29 : ai_hv t125 399 953 = some (.inl (m14 - v109)) := (e125 399 953 (by first | decide | omega)).trans k118
        have E125 := px_E_st E118 e125 (by first | decide | omega) (by first | decide | omega)
        refine gx_incS (i := 3) (a := 1) (x := 1) rfl (fun _ => rfl) l23_3 (by first | decide | omega) rfl (fun l30 hl30 ml30 => ?_)
        have l30_0 : en_ld l30 0 = some (gx_r 383) := ml30 0 _ l23_0 rfl
        have l30_1 : en_ld l30 1 = some (.inl 945) := ml30 1 _ l23_1 rfl
        have l30_4 : en_ld l30 4 = some (.inl v109) := ml30 4 _ l23_4 rfl
        have l30_2 : en_ld l30 2 = some (.inl z22) := ml30 2 _ hl23 rfl
        refine ex_go (S := (4, l30, [], t125, n, 0)) rfl (fun _ => rfl) rfl ?_
        exact ps_c_945_2 hp _ _ t125 (by first | decide | omega) g125 E125 (fun c i h => (e125 c i (by first | decide | omega)).trans ((e118 c i (by first | decide | omega)).trans ((e109 c i (by first | decide | omega)).trans ((e104 c i (by first | decide | omega)).trans ((f101 c i (by first | decide | omega)).trans (e0 c i h)))))) l30_0 l30_1 l30_2 hl30
      · refine gx_2f (c := .ne) rfl (by first | decide | omega) (by first | decide | omega) hc24 rfl ?_
        refine gx_ld (i := 0) (d := 2) (v := gx_r 383) rfl (fun _ => rfl) l23_0 rfl rfl ?_
        refine gx_ld (i := 0) (d := 2) (v := gx_r 383) rfl (fun _ => rfl) l23_0 rfl rfl ?_
        refine gx_ref (c := 399) rfl g118 rfl rfl rfl rfl ?_
        refine gx_ld (i := 1) (d := 0) (v := .inl 945) rfl (fun _ => rfl) l23_1 rfl rfl ?_
        refine ex_go (S := (138, l23, [.inl 13, .inl 945, gx_r 399, gx_r 383, .inl 959, gx_r 399], t118, n, 0)) rfl (fun _ => rfl) rfl ?_
        refine ex_go (S := (139, l23, [.inl 958, gx_r 399, gx_r 383, .inl 959, gx_r 399], t118, n, 0)) rfl (fun _ => rfl) rfl ?_
        refine gx_ld (i := 3) (d := 0) (v := .inl 1) rfl (fun _ => rfl) l23_3 rfl rfl ?_
        refine ex_go (S := (141, l23, [.inl 959, gx_r 399, gx_r 383, .inl 959, gx_r 399], t118, n, 0)) rfl (fun _ => rfl) rfl ?_
        obtain ⟨m31, k32, m31l, m31h⟩ := gx_in (c := 399) (i := 959) (lo := 0) (hi := 63) g118 rfl rfl rfl rfl
        refine gx_ag (v := .inl m31) (cb := fun c => Nat.beq c 0) rfl (fun _ => rfl) g118 rfl rfl k32 (by first | decide | omega) rfl ?_
        obtain ⟨v133, t133, r133, g133, E133, vb133, e133⟩ := hp.2.2.1 t118 n m31 g118 E118 (by first | decide | omega)
        refine gx_call1 rfl rfl g118 rfl rfl r133 rfl ?_
        have f133 : ∀ c i, ¬ (c = 0 ∧ c = 1) → ai_hv t133 c i = ai_hv t118 c i := fun c i _ => e133 c i
        have k34 : ai_hv t133 399 961 = some (.inl 0) := (f133 399 961 (by first | decide | omega)).trans k19
        have k35 : ai_hv t133 399 945 = some (.inl m5) := (f133 399 945 (by first | decide | omega)).trans k20
        have k36 : ai_hv t133 399 957 = some (.inl m7) := (f133 399 957 (by first | decide | omega)).trans k21
        have k37 : ai_hv t133 399 953 = some (.inl (m14 - v109)) := (f133 399 953 (by first | decide | omega)).trans k118
        have k38 : ai_hv t133 399 959 = some (.inl m31) := (f133 399 959 (by first | decide | omega)).trans k32
        refine ex_go (S := (149, l23, [.inl v133, .inl 959, gx_r 399], t133, n, 0)) rfl (fun _ => rfl) rfl ?_
        refine gx_ap rfl (fun _ => rfl) g133 rfl rfl rfl (show 959 < 1035 from by omega) rfl (ai_in_h (by first | decide | omega) (by first | decide | omega) (by first | decide | omega)) rfl (fun t139 g139 k139 e139 => ?_)
        have k40 : ai_hv t139 399 961 = some (.inl 0) := (e139 399 961 (by first | decide | omega)).trans k34
        have k41 : ai_hv t139 399 945 = some (.inl m5) := (e139 399 945 (by first | decide | omega)).trans k35
        have k42 : ai_hv t139 399 957 = some (.inl m7) := (e139 399 957 (by first | decide | omega)).trans k36
        have k43 : ai_hv t139 399 953 = some (.inl (m14 - v109)) := (e139 399 953 (by first | decide | omega)).trans k37
        have E139 := px_E_st E133 e139 (by first | decide | omega) (by first | decide | omega)
        refine gx_incS (i := 3) (a := 1) (x := 1) rfl (fun _ => rfl) l23_3 (by first | decide | omega) rfl (fun l44 hl44 ml44 => ?_)
        have l44_0 : en_ld l44 0 = some (gx_r 383) := ml44 0 _ l23_0 rfl
        have l44_1 : en_ld l44 1 = some (.inl 945) := ml44 1 _ l23_1 rfl
        have l44_4 : en_ld l44 4 = some (.inl v109) := ml44 4 _ l23_4 rfl
        have l44_2 : en_ld l44 2 = some (.inl z22) := ml44 2 _ hl23 rfl
        refine ex_go (S := (4, l44, [], t139, n, 0)) rfl (fun _ => rfl) rfl ?_
        exact ps_c_945_2 hp _ _ t139 (by first | decide | omega) g139 E139 (fun c i h => (e139 c i (by first | decide | omega)).trans ((f133 c i (by first | decide | omega)).trans ((e118 c i (by first | decide | omega)).trans ((e109 c i (by first | decide | omega)).trans ((e104 c i (by first | decide | omega)).trans ((f101 c i (by first | decide | omega)).trans (e0 c i h))))))) l44_0 l44_1 l44_2 hl44
    · refine gx_2f (c := .le) rfl (by first | decide | omega) (by first | decide | omega) hc16 rfl ?_
      refine gx_ld (i := 0) (d := 2) (v := gx_r 383) rfl (fun _ => rfl) l13_0 rfl rfl ?_
      refine gx_ref (c := 399) rfl g109 rfl rfl rfl rfl ?_
      refine gx_ld (i := 1) (d := 0) (v := .inl 945) rfl (fun _ => rfl) l13_1 rfl rfl ?_
      refine ex_go (S := (73, l13, [.inl 7, .inl 945, gx_r 399], t109, n, 0)) rfl (fun _ => rfl) rfl ?_
      refine ex_go (S := (74, l13, [.inl 952, gx_r 399], t109, n, 0)) rfl (fun _ => rfl) rfl ?_
      refine gx_ld (i := 3) (d := 0) (v := .inl 1) rfl (fun _ => rfl) l13_3 rfl rfl ?_
      refine ex_go (S := (76, l13, [.inl 953, gx_r 399], t109, n, 0)) rfl (fun _ => rfl) rfl ?_
      refine gx_ag (v := .inl m14) (cb := fun c => Nat.beq c 0) rfl (fun _ => rfl) g109 rfl rfl k15 (by first | decide | omega) rfl ?_
      refine ex_go (S := (82, l13, [.inl m14], t109, n, 0)) rfl (fun _ => rfl) rfl ?_
      refine gx_sto (i := 4) (d := 0) rfl (fun _ => rfl) rfl rfl (fun l45 hl45 ml45 => ?_)
      have l45_0 : en_ld l45 0 = some (gx_r 383) := ml45 0 _ l13_0 rfl
      have l45_1 : en_ld l45 1 = some (.inl 945) := ml45 1 _ l13_1 rfl
      have l45_2 : en_ld l45 2 = some (.inl z) := ml45 2 _ l13_2 rfl
      have l45_3 : en_ld l45 3 = some (.inl 1) := ml45 3 _ l13_3 rfl
      refine gx_ld (i := 0) (d := 2) (v := gx_r 383) rfl (fun _ => rfl) l45_0 rfl rfl ?_
      refine gx_ref (c := 399) rfl g109 rfl rfl rfl rfl ?_
      refine gx_ld (i := 1) (d := 0) (v := .inl 945) rfl (fun _ => rfl) l45_1 rfl rfl ?_
      refine ex_go (S := (91, l45, [.inl 7, .inl 945, gx_r 399], t109, n, 0)) rfl (fun _ => rfl) rfl ?_
      refine ex_go (S := (92, l45, [.inl 952, gx_r 399], t109, n, 0)) rfl (fun _ => rfl) rfl ?_
      refine gx_ld (i := 3) (d := 0) (v := .inl 1) rfl (fun _ => rfl) l45_3 rfl rfl ?_
      refine ex_go (S := (94, l45, [.inl 953, gx_r 399], t109, n, 0)) rfl (fun _ => rfl) rfl ?_
      refine ex_go (S := (95, l45, [.inl 953, gx_r 399, .inl 953, gx_r 399], t109, n, 0)) rfl (fun _ => rfl) rfl ?_
      refine gx_ag (v := .inl m14) (cb := fun c => Nat.beq c 0) rfl (fun _ => rfl) g109 rfl rfl k15 (by first | decide | omega) rfl ?_
      refine gx_ld (i := 4) (d := 0) (v := .inl m14) rfl (fun _ => rfl) hl45 rfl rfl ?_
      refine gx_isub rfl (by first | decide | omega) (by first | decide | omega) rfl ?_
      refine gx_ap rfl (fun _ => rfl) g109 rfl rfl rfl (show 953 < 1035 from by omega) rfl (ai_in_h (by first | decide | omega) (by first | decide | omega) (by first | decide | omega)) rfl (fun t146 g146 k146 e146 => ?_)
      have k47 : ai_hv t146 399 961 = some (.inl 0) := (e146 399 961 (by first | decide | omega)).trans k10
      have k48 : ai_hv t146 399 945 = some (.inl m5) := (e146 399 945 (by first | decide | omega)).trans k11
      have k49 : ai_hv t146 399 957 = some (.inl m7) := (e146 399 957 (by first | decide | omega)).trans k12
      have E146 := px_E_bis (b := 21) (y := 8) E109 e146 k15 k146 (by decide) (by first | decide | omega) (by first | decide | omega)
      refine gx_ld (i := 2) (d := 0) (v := .inl z) rfl (fun _ => rfl) l45_2 rfl rfl ?_
      refine gx_ld (i := 4) (d := 0) (v := .inl m14) rfl (fun _ => rfl) hl45 rfl rfl ?_
      refine gx_iaddw rfl rfl (fun z50 z50b => ?_)
      refine gx_sto (i := 2) (d := 0) rfl (fun _ => rfl) rfl rfl (fun l51 hl51 ml51 => ?_)
      have l51_0 : en_ld l51 0 = some (gx_r 383) := ml51 0 _ l45_0 rfl
      have l51_1 : en_ld l51 1 = some (.inl 945) := ml51 1 _ l45_1 rfl
      have l51_3 : en_ld l51 3 = some (.inl 1) := ml51 3 _ l45_3 rfl
      have l51_4 : en_ld l51 4 = some (.inl m14) := ml51 4 _ hl45 rfl
      refine gx_ld (i := 0) (d := 2) (v := gx_r 383) rfl (fun _ => rfl) l51_0 rfl rfl ?_
      refine gx_ref (c := 399) rfl g146 rfl rfl rfl rfl ?_
      refine gx_ld (i := 1) (d := 0) (v := .inl 945) rfl (fun _ => rfl) l51_1 rfl rfl ?_
      refine ex_go (S := (112, l51, [.inl 13, .inl 945, gx_r 399], t146, n, 0)) rfl (fun _ => rfl) rfl ?_
      refine ex_go (S := (113, l51, [.inl 958, gx_r 399], t146, n, 0)) rfl (fun _ => rfl) rfl ?_
      refine gx_ld (i := 3) (d := 0) (v := .inl 1) rfl (fun _ => rfl) l51_3 rfl rfl ?_
      refine ex_go (S := (115, l51, [.inl 959, gx_r 399], t146, n, 0)) rfl (fun _ => rfl) rfl ?_
      refine gx_ld (i := 0) (d := 2) (v := gx_r 383) rfl (fun _ => rfl) l51_0 rfl rfl ?_
      refine gx_ref (c := 399) rfl g146 rfl rfl rfl rfl ?_
      refine gx_ld (i := 1) (d := 0) (v := .inl 945) rfl (fun _ => rfl) l51_1 rfl rfl ?_
      refine ex_go (S := (122, l51, [.inl 11, .inl 945, gx_r 399, .inl 959, gx_r 399], t146, n, 0)) rfl (fun _ => rfl) rfl ?_
      refine ex_go (S := (123, l51, [.inl 956, gx_r 399, .inl 959, gx_r 399], t146, n, 0)) rfl (fun _ => rfl) rfl ?_
      refine gx_ld (i := 3) (d := 0) (v := .inl 1) rfl (fun _ => rfl) l51_3 rfl rfl ?_
      refine ex_go (S := (125, l51, [.inl 957, gx_r 399, .inl 959, gx_r 399], t146, n, 0)) rfl (fun _ => rfl) rfl ?_
      refine gx_ag (v := .inl m7) (cb := fun c => Nat.beq c 0) rfl (fun _ => rfl) g146 rfl rfl k49 (by first | decide | omega) rfl ?_
      refine ex_go (S := (127, l51, [.inl 1, .inl m7, .inl 959, gx_r 399], t146, n, 0)) rfl (fun _ => rfl) rfl ?_
      by_cases hc52 : m7 ≠ 1
      · refine gx_2t (c := .ne) rfl (by first | decide | omega) (by first | decide | omega) hc52 rfl ?_
        refine ex_go (S := (149, l51, [.inl 0, .inl 959, gx_r 399], t146, n, 0)) rfl (fun _ => rfl) rfl ?_
        refine gx_ap rfl (fun _ => rfl) g146 rfl rfl rfl (show 959 < 1035 from by omega) rfl (ai_in_h (by first | decide | omega) (by first | decide | omega) (by first | decide | omega)) rfl (fun t153 g153 k153 e153 => ?_)
        have k54 : ai_hv t153 399 961 = some (.inl 0) := (e153 399 961 (by first | decide | omega)).trans k47
        have k55 : ai_hv t153 399 945 = some (.inl m5) := (e153 399 945 (by first | decide | omega)).trans k48
        have k56 : ai_hv t153 399 957 = some (.inl m7) := (e153 399 957 (by first | decide | omega)).trans k49
        have k57 : ai_hv t153 399 953 = some (.inl (m14 - m14)) := (e153 399 953 (by first | decide | omega)).trans k146
        have E153 := px_E_st E146 e153 (by first | decide | omega) (by first | decide | omega)
        refine gx_incS (i := 3) (a := 1) (x := 1) rfl (fun _ => rfl) l51_3 (by first | decide | omega) rfl (fun l58 hl58 ml58 => ?_)
        have l58_0 : en_ld l58 0 = some (gx_r 383) := ml58 0 _ l51_0 rfl
        have l58_1 : en_ld l58 1 = some (.inl 945) := ml58 1 _ l51_1 rfl
        have l58_4 : en_ld l58 4 = some (.inl m14) := ml58 4 _ l51_4 rfl
        have l58_2 : en_ld l58 2 = some (.inl z50) := ml58 2 _ hl51 rfl
        refine ex_go (S := (4, l58, [], t153, n, 0)) rfl (fun _ => rfl) rfl ?_
        exact ps_c_945_2 hp _ _ t153 (by first | decide | omega) g153 E153 (fun c i h => (e153 c i (by first | decide | omega)).trans ((e146 c i (by first | decide | omega)).trans ((e109 c i (by first | decide | omega)).trans ((e104 c i (by first | decide | omega)).trans ((f101 c i (by first | decide | omega)).trans (e0 c i h)))))) l58_0 l58_1 l58_2 hl58
      · refine gx_2f (c := .ne) rfl (by first | decide | omega) (by first | decide | omega) hc52 rfl ?_
        refine gx_ld (i := 0) (d := 2) (v := gx_r 383) rfl (fun _ => rfl) l51_0 rfl rfl ?_
        refine gx_ld (i := 0) (d := 2) (v := gx_r 383) rfl (fun _ => rfl) l51_0 rfl rfl ?_
        refine gx_ref (c := 399) rfl g146 rfl rfl rfl rfl ?_
        refine gx_ld (i := 1) (d := 0) (v := .inl 945) rfl (fun _ => rfl) l51_1 rfl rfl ?_
        refine ex_go (S := (138, l51, [.inl 13, .inl 945, gx_r 399, gx_r 383, .inl 959, gx_r 399], t146, n, 0)) rfl (fun _ => rfl) rfl ?_
        refine ex_go (S := (139, l51, [.inl 958, gx_r 399, gx_r 383, .inl 959, gx_r 399], t146, n, 0)) rfl (fun _ => rfl) rfl ?_
        refine gx_ld (i := 3) (d := 0) (v := .inl 1) rfl (fun _ => rfl) l51_3 rfl rfl ?_
        refine ex_go (S := (141, l51, [.inl 959, gx_r 399, gx_r 383, .inl 959, gx_r 399], t146, n, 0)) rfl (fun _ => rfl) rfl ?_
        obtain ⟨m59, k60, m59l, m59h⟩ := gx_in (c := 399) (i := 959) (lo := 0) (hi := 63) g146 rfl rfl rfl rfl
        refine gx_ag (v := .inl m59) (cb := fun c => Nat.beq c 0) rfl (fun _ => rfl) g146 rfl rfl k60 (by first | decide | omega) rfl ?_
        obtain ⟨v161, t161, r161, g161, E161, vb161, e161⟩ := hp.2.2.1 t146 n m59 g146 E146 (by first | decide | omega)
        refine gx_call1 rfl rfl g146 rfl rfl r161 rfl ?_
        have f161 : ∀ c i, ¬ (c = 0 ∧ c = 1) → ai_hv t161 c i = ai_hv t146 c i := fun c i _ => e161 c i
        have k62 : ai_hv t161 399 961 = some (.inl 0) := (f161 399 961 (by first | decide | omega)).trans k47
        have k63 : ai_hv t161 399 945 = some (.inl m5) := (f161 399 945 (by first | decide | omega)).trans k48
        have k64 : ai_hv t161 399 957 = some (.inl m7) := (f161 399 957 (by first | decide | omega)).trans k49
        have k65 : ai_hv t161 399 953 = some (.inl (m14 - m14)) := (f161 399 953 (by first | decide | omega)).trans k146
        have k66 : ai_hv t161 399 959 = some (.inl m59) := (f161 399 959 (by first | decide | omega)).trans k60
        refine ex_go (S := (149, l51, [.inl v161, .inl 959, gx_r 399], t161, n, 0)) rfl (fun _ => rfl) rfl ?_
        refine gx_ap rfl (fun _ => rfl) g161 rfl rfl rfl (show 959 < 1035 from by omega) rfl (ai_in_h (by first | decide | omega) (by first | decide | omega) (by first | decide | omega)) rfl (fun t167 g167 k167 e167 => ?_)
        have k68 : ai_hv t167 399 961 = some (.inl 0) := (e167 399 961 (by first | decide | omega)).trans k62
        have k69 : ai_hv t167 399 945 = some (.inl m5) := (e167 399 945 (by first | decide | omega)).trans k63
        have k70 : ai_hv t167 399 957 = some (.inl m7) := (e167 399 957 (by first | decide | omega)).trans k64
        have k71 : ai_hv t167 399 953 = some (.inl (m14 - m14)) := (e167 399 953 (by first | decide | omega)).trans k65
        have E167 := px_E_st E161 e167 (by first | decide | omega) (by first | decide | omega)
        refine gx_incS (i := 3) (a := 1) (x := 1) rfl (fun _ => rfl) l51_3 (by first | decide | omega) rfl (fun l72 hl72 ml72 => ?_)
        have l72_0 : en_ld l72 0 = some (gx_r 383) := ml72 0 _ l51_0 rfl
        have l72_1 : en_ld l72 1 = some (.inl 945) := ml72 1 _ l51_1 rfl
        have l72_4 : en_ld l72 4 = some (.inl m14) := ml72 4 _ l51_4 rfl
        have l72_2 : en_ld l72 2 = some (.inl z50) := ml72 2 _ hl51 rfl
        refine ex_go (S := (4, l72, [], t167, n, 0)) rfl (fun _ => rfl) rfl ?_
        exact ps_c_945_2 hp _ _ t167 (by first | decide | omega) g167 E167 (fun c i h => (e167 c i (by first | decide | omega)).trans ((f161 c i (by first | decide | omega)).trans ((e146 c i (by first | decide | omega)).trans ((e109 c i (by first | decide | omega)).trans ((e104 c i (by first | decide | omega)).trans ((f101 c i (by first | decide | omega)).trans (e0 c i h))))))) l72_0 l72_1 l72_2 hl72
set_option maxRecDepth 100000 in
theorem ps_c_945_0 {fn : en_F} (hp : gx_pass fn) {n : Nat} {tb : en_H} (z : Nat) (cl : en_L) (t0 : en_H) (hz : z < 4294967296) (g0 : ai_HG ah_G t0) (E0 : ai_E t0) (e0 : (∀ c i, ¬ ((c = 397 ∧ i ≤ 3) ∨ (c = 398 ∧ i ≤ 1099) ∨ (c = 399 ∧ 945 ≤ i ∧ i ≤ 1034)) → ai_hv t0 c i = ai_hv tb c i)) (h0 : en_ld cl 0 = some (gx_r 383)) (h1 : en_ld cl 1 = some (.inl 945)) (h2 : en_ld cl 2 = some (.inl z)) (h3 : en_ld cl 3 = some (.inl 0)) : en_ex none fn (en_code 116) (fun _ => false) (4, cl, [], t0, n, 0) (fun o => ∃ r, o = .inl r ∧ ∃ v t', r = (some (.inl v), t', n, 0) ∧ v < 4294967296 ∧ ai_HG ah_G t' ∧ ai_E t' ∧ (∀ c i, ¬ ((c = 397 ∧ i ≤ 3) ∨ (c = 398 ∧ i ≤ 1099) ∨ (c = 399 ∧ 945 ≤ i ∧ i ≤ 1034)) → ai_hv t' c i = ai_hv tb c i)) := by
  refine gx_ld (i := 3) (d := 0) (v := .inl 0) rfl (fun _ => rfl) h3 rfl rfl ?_
  refine gx_ld (i := 0) (d := 2) (v := gx_r 383) rfl (fun _ => rfl) h0 rfl rfl ?_
  obtain ⟨v101, t101, r101, g101, E101, vb101, e101⟩ := hp.1 t0 n  g0 E0 
  refine gx_call1 rfl rfl g0 rfl rfl r101 rfl ?_
  have f101 : ∀ c i, ¬ (c = 0 ∧ c = 1) → ai_hv t101 c i = ai_hv t0 c i := fun c i _ => e101 c i
  by_cases hc2 : v101 ≤ 0
  · refine gx_2t (c := .ge) rfl (by first | decide | omega) (by first | decide | omega) hc2 rfl ?_
    refine ex_go (S := (157, cl, [.inl 0], t101, n, 0)) rfl (fun _ => rfl) rfl ?_
    refine gx_sto (i := 3) (d := 0) rfl (fun _ => rfl) rfl rfl (fun l3 hl3 ml3 => ?_)
    have l3_0 : en_ld l3 0 = some (gx_r 383) := ml3 0 _ h0 rfl
    have l3_1 : en_ld l3 1 = some (.inl 945) := ml3 1 _ h1 rfl
    have l3_2 : en_ld l3 2 = some (.inl z) := ml3 2 _ h2 rfl
    exact ps_t_945 hp 6 0 _ _ t101 (by first | decide | omega) (by first | decide | omega) g101 E101 (fun c i h => (f101 c i (by first | decide | omega)).trans (e0 c i h)) l3_0 l3_1 l3_2 hl3
  · refine gx_2f (c := .ge) rfl (by first | decide | omega) (by first | decide | omega) hc2 rfl ?_
    refine gx_ld (i := 0) (d := 2) (v := gx_r 383) rfl (fun _ => rfl) h0 rfl rfl ?_
    refine gx_ref (c := 399) rfl g101 rfl rfl rfl rfl ?_
    refine gx_ld (i := 1) (d := 0) (v := .inl 945) rfl (fun _ => rfl) h1 rfl rfl ?_
    refine ex_go (S := (19, cl, [.inl 15, .inl 945, gx_r 399], t101, n, 0)) rfl (fun _ => rfl) rfl ?_
    refine ex_go (S := (20, cl, [.inl 960, gx_r 399], t101, n, 0)) rfl (fun _ => rfl) rfl ?_
    refine gx_ld (i := 3) (d := 0) (v := .inl 0) rfl (fun _ => rfl) h3 rfl rfl ?_
    refine ex_go (S := (22, cl, [.inl 960, gx_r 399], t101, n, 0)) rfl (fun _ => rfl) rfl ?_
    refine ex_go (S := (23, cl, [.inl 0, .inl 960, gx_r 399], t101, n, 0)) rfl (fun _ => rfl) rfl ?_
    refine gx_ap rfl (fun _ => rfl) g101 rfl rfl rfl (show 960 < 1035 from by omega) rfl (ai_in_h (by first | decide | omega) (by first | decide | omega) (by first | decide | omega)) rfl (fun t104 g104 k104 e104 => ?_)
    have E104 := px_E_st E101 e104 (by first | decide | omega) (by first | decide | omega)
    refine gx_ld (i := 0) (d := 2) (v := gx_r 383) rfl (fun _ => rfl) h0 rfl rfl ?_
    refine gx_ld (i := 3) (d := 0) (v := .inl 0) rfl (fun _ => rfl) h3 rfl rfl ?_
    refine gx_ld (i := 0) (d := 2) (v := gx_r 383) rfl (fun _ => rfl) h0 rfl rfl ?_
    refine gx_ref (c := 399) rfl g104 rfl rfl rfl rfl ?_
    refine gx_ld (i := 1) (d := 0) (v := .inl 945) rfl (fun _ => rfl) h1 rfl rfl ?_
    refine ex_go (S := (32, cl, [.inl 0, .inl 945, gx_r 399, .inl 0, gx_r 383], t104, n, 0)) rfl (fun _ => rfl) rfl ?_
    refine ex_go (S := (33, cl, [.inl 945, gx_r 399, .inl 0, gx_r 383], t104, n, 0)) rfl (fun _ => rfl) rfl ?_
    obtain ⟨m5, k6, m5b⟩ := gx_any (c := 399) (i := 945) g104 rfl rfl rfl
    refine gx_ag (v := .inl m5) (cb := fun c => Nat.beq c 0) rfl (fun _ => rfl) g104 rfl rfl k6 (by first | decide | omega) rfl ?_
    refine gx_ld (i := 0) (d := 2) (v := gx_r 383) rfl (fun _ => rfl) h0 rfl rfl ?_
    refine gx_ref (c := 399) rfl g104 rfl rfl rfl rfl ?_
    refine gx_ld (i := 1) (d := 0) (v := .inl 945) rfl (fun _ => rfl) h1 rfl rfl ?_
    refine ex_go (S := (41, cl, [.inl 11, .inl 945, gx_r 399, .inl m5, .inl 0, gx_r 383], t104, n, 0)) rfl (fun _ => rfl) rfl ?_
    refine ex_go (S := (42, cl, [.inl 956, gx_r 399, .inl m5, .inl 0, gx_r 383], t104, n, 0)) rfl (fun _ => rfl) rfl ?_
    refine gx_ld (i := 3) (d := 0) (v := .inl 0) rfl (fun _ => rfl) h3 rfl rfl ?_
    refine ex_go (S := (44, cl, [.inl 956, gx_r 399, .inl m5, .inl 0, gx_r 383], t104, n, 0)) rfl (fun _ => rfl) rfl ?_
    obtain ⟨m7, k8, m7l, m7h⟩ := gx_in (c := 399) (i := 956) (lo := 0) (hi := 1) g104 rfl rfl rfl rfl
    refine gx_ag (v := .inl m7) (cb := fun c => Nat.beq c 0) rfl (fun _ => rfl) g104 rfl rfl k8 (by first | decide | omega) rfl ?_
    obtain ⟨v109, t109, r109, g109, E109, vb109, e109⟩ := hp.2.2.2 t104 n 0 m5 m7 g104 E104 (by first | decide | omega) (by first | decide | omega) (by first | decide | omega)
    refine gx_call1 rfl rfl g104 rfl rfl r109 rfl ?_
    have k10 : ai_hv t109 399 960 = some (.inl 0) := (e109 399 960 (by first | decide | omega)).trans k104
    have k11 : ai_hv t109 399 945 = some (.inl m5) := (e109 399 945 (by first | decide | omega)).trans k6
    have k12 : ai_hv t109 399 956 = some (.inl m7) := (e109 399 956 (by first | decide | omega)).trans k8
    refine gx_sto (i := 4) (d := 0) rfl (fun _ => rfl) rfl rfl (fun l13 hl13 ml13 => ?_)
    have l13_0 : en_ld l13 0 = some (gx_r 383) := ml13 0 _ h0 rfl
    have l13_1 : en_ld l13 1 = some (.inl 945) := ml13 1 _ h1 rfl
    have l13_2 : en_ld l13 2 = some (.inl z) := ml13 2 _ h2 rfl
    have l13_3 : en_ld l13 3 = some (.inl 0) := ml13 3 _ h3 rfl
    refine gx_ld (i := 4) (d := 0) (v := .inl v109) rfl (fun _ => rfl) hl13 rfl rfl ?_
    refine gx_ld (i := 0) (d := 2) (v := gx_r 383) rfl (fun _ => rfl) l13_0 rfl rfl ?_
    refine gx_ref (c := 399) rfl g109 rfl rfl rfl rfl ?_
    refine gx_ld (i := 1) (d := 0) (v := .inl 945) rfl (fun _ => rfl) l13_1 rfl rfl ?_
    refine ex_go (S := (59, l13, [.inl 7, .inl 945, gx_r 399, .inl v109], t109, n, 0)) rfl (fun _ => rfl) rfl ?_
    refine ex_go (S := (60, l13, [.inl 952, gx_r 399, .inl v109], t109, n, 0)) rfl (fun _ => rfl) rfl ?_
    refine gx_ld (i := 3) (d := 0) (v := .inl 0) rfl (fun _ => rfl) l13_3 rfl rfl ?_
    refine ex_go (S := (62, l13, [.inl 952, gx_r 399, .inl v109], t109, n, 0)) rfl (fun _ => rfl) rfl ?_
    obtain ⟨m14, k15, m14l, m14h⟩ := gx_in (c := 399) (i := 952) (lo := 0) (hi := 19998) g109 rfl rfl rfl rfl
    refine gx_ag (v := .inl m14) (cb := fun c => Nat.beq c 0) rfl (fun _ => rfl) g109 rfl rfl k15 (by first | decide | omega) rfl ?_
    by_cases hc16 : v109 ≤ m14
    · refine gx_2t (c := .le) rfl (by first | decide | omega) (by first | decide | omega) hc16 rfl ?_
      refine gx_ld (i := 4) (d := 0) (v := .inl v109) rfl (fun _ => rfl) hl13 rfl rfl ?_
      refine gx_sto (i := 4) (d := 0) rfl (fun _ => rfl) rfl rfl (fun l17 hl17 ml17 => ?_)
      have l17_0 : en_ld l17 0 = some (gx_r 383) := ml17 0 _ l13_0 rfl
      have l17_1 : en_ld l17 1 = some (.inl 945) := ml17 1 _ l13_1 rfl
      have l17_2 : en_ld l17 2 = some (.inl z) := ml17 2 _ l13_2 rfl
      have l17_3 : en_ld l17 3 = some (.inl 0) := ml17 3 _ l13_3 rfl
      refine gx_ld (i := 0) (d := 2) (v := gx_r 383) rfl (fun _ => rfl) l17_0 rfl rfl ?_
      refine gx_ref (c := 399) rfl g109 rfl rfl rfl rfl ?_
      refine gx_ld (i := 1) (d := 0) (v := .inl 945) rfl (fun _ => rfl) l17_1 rfl rfl ?_
      refine ex_go (S := (91, l17, [.inl 7, .inl 945, gx_r 399], t109, n, 0)) rfl (fun _ => rfl) rfl ?_
      refine ex_go (S := (92, l17, [.inl 952, gx_r 399], t109, n, 0)) rfl (fun _ => rfl) rfl ?_
      refine gx_ld (i := 3) (d := 0) (v := .inl 0) rfl (fun _ => rfl) l17_3 rfl rfl ?_
      refine ex_go (S := (94, l17, [.inl 952, gx_r 399], t109, n, 0)) rfl (fun _ => rfl) rfl ?_
      refine ex_go (S := (95, l17, [.inl 952, gx_r 399, .inl 952, gx_r 399], t109, n, 0)) rfl (fun _ => rfl) rfl ?_
      refine gx_ag (v := .inl m14) (cb := fun c => Nat.beq c 0) rfl (fun _ => rfl) g109 rfl rfl k15 (by first | decide | omega) rfl ?_
      refine gx_ld (i := 4) (d := 0) (v := .inl v109) rfl (fun _ => rfl) hl17 rfl rfl ?_
      refine gx_isub rfl (by first | decide | omega) (by first | decide | omega) rfl ?_
      refine gx_ap rfl (fun _ => rfl) g109 rfl rfl rfl (show 952 < 1035 from by omega) rfl (ai_in_h (by first | decide | omega) (by first | decide | omega) (by first | decide | omega)) rfl (fun t118 g118 k118 e118 => ?_)
      have k19 : ai_hv t118 399 960 = some (.inl 0) := (e118 399 960 (by first | decide | omega)).trans k10
      have k20 : ai_hv t118 399 945 = some (.inl m5) := (e118 399 945 (by first | decide | omega)).trans k11
      have k21 : ai_hv t118 399 956 = some (.inl m7) := (e118 399 956 (by first | decide | omega)).trans k12
      have E118 := px_E_bis (b := 21) (y := 7) E109 e118 k15 k118 (by decide) (by first | decide | omega) (by first | decide | omega)
      refine gx_ld (i := 2) (d := 0) (v := .inl z) rfl (fun _ => rfl) l17_2 rfl rfl ?_
      refine gx_ld (i := 4) (d := 0) (v := .inl v109) rfl (fun _ => rfl) hl17 rfl rfl ?_
      refine gx_iaddw rfl rfl (fun z22 z22b => ?_)
      refine gx_sto (i := 2) (d := 0) rfl (fun _ => rfl) rfl rfl (fun l23 hl23 ml23 => ?_)
      have l23_0 : en_ld l23 0 = some (gx_r 383) := ml23 0 _ l17_0 rfl
      have l23_1 : en_ld l23 1 = some (.inl 945) := ml23 1 _ l17_1 rfl
      have l23_3 : en_ld l23 3 = some (.inl 0) := ml23 3 _ l17_3 rfl
      have l23_4 : en_ld l23 4 = some (.inl v109) := ml23 4 _ hl17 rfl
      refine gx_ld (i := 0) (d := 2) (v := gx_r 383) rfl (fun _ => rfl) l23_0 rfl rfl ?_
      refine gx_ref (c := 399) rfl g118 rfl rfl rfl rfl ?_
      refine gx_ld (i := 1) (d := 0) (v := .inl 945) rfl (fun _ => rfl) l23_1 rfl rfl ?_
      refine ex_go (S := (112, l23, [.inl 13, .inl 945, gx_r 399], t118, n, 0)) rfl (fun _ => rfl) rfl ?_
      refine ex_go (S := (113, l23, [.inl 958, gx_r 399], t118, n, 0)) rfl (fun _ => rfl) rfl ?_
      refine gx_ld (i := 3) (d := 0) (v := .inl 0) rfl (fun _ => rfl) l23_3 rfl rfl ?_
      refine ex_go (S := (115, l23, [.inl 958, gx_r 399], t118, n, 0)) rfl (fun _ => rfl) rfl ?_
      refine gx_ld (i := 0) (d := 2) (v := gx_r 383) rfl (fun _ => rfl) l23_0 rfl rfl ?_
      refine gx_ref (c := 399) rfl g118 rfl rfl rfl rfl ?_
      refine gx_ld (i := 1) (d := 0) (v := .inl 945) rfl (fun _ => rfl) l23_1 rfl rfl ?_
      refine ex_go (S := (122, l23, [.inl 11, .inl 945, gx_r 399, .inl 958, gx_r 399], t118, n, 0)) rfl (fun _ => rfl) rfl ?_
      refine ex_go (S := (123, l23, [.inl 956, gx_r 399, .inl 958, gx_r 399], t118, n, 0)) rfl (fun _ => rfl) rfl ?_
      refine gx_ld (i := 3) (d := 0) (v := .inl 0) rfl (fun _ => rfl) l23_3 rfl rfl ?_
      refine ex_go (S := (125, l23, [.inl 956, gx_r 399, .inl 958, gx_r 399], t118, n, 0)) rfl (fun _ => rfl) rfl ?_
      refine gx_ag (v := .inl m7) (cb := fun c => Nat.beq c 0) rfl (fun _ => rfl) g118 rfl rfl k21 (by first | decide | omega) rfl ?_
      refine ex_go (S := (127, l23, [.inl 1, .inl m7, .inl 958, gx_r 399], t118, n, 0)) rfl (fun _ => rfl) rfl ?_
      by_cases hc24 : m7 ≠ 1
      · refine gx_2t (c := .ne) rfl (by first | decide | omega) (by first | decide | omega) hc24 rfl ?_
        refine ex_go (S := (149, l23, [.inl 0, .inl 958, gx_r 399], t118, n, 0)) rfl (fun _ => rfl) rfl ?_
        refine gx_ap rfl (fun _ => rfl) g118 rfl rfl rfl (show 958 < 1035 from by omega) rfl (ai_in_h (by first | decide | omega) (by first | decide | omega) (by first | decide | omega)) rfl (fun t125 g125 k125 e125 => ?_)
        have k26 : ai_hv t125 399 960 = some (.inl 0) := (e125 399 960 (by first | decide | omega)).trans k19
        have k27 : ai_hv t125 399 945 = some (.inl m5) := (e125 399 945 (by first | decide | omega)).trans k20
        have k28 : ai_hv t125 399 956 = some (.inl m7) := (e125 399 956 (by first | decide | omega)).trans k21
        have k29 : ai_hv t125 399 952 = some (.inl (m14 - v109)) := (e125 399 952 (by first | decide | omega)).trans k118
        have E125 := px_E_st E118 e125 (by first | decide | omega) (by first | decide | omega)
        refine gx_incS (i := 3) (a := 0) (x := 1) rfl (fun _ => rfl) l23_3 (by first | decide | omega) rfl (fun l30 hl30 ml30 => ?_)
        have l30_0 : en_ld l30 0 = some (gx_r 383) := ml30 0 _ l23_0 rfl
        have l30_1 : en_ld l30 1 = some (.inl 945) := ml30 1 _ l23_1 rfl
        have l30_4 : en_ld l30 4 = some (.inl v109) := ml30 4 _ l23_4 rfl
        have l30_2 : en_ld l30 2 = some (.inl z22) := ml30 2 _ hl23 rfl
        refine ex_go (S := (4, l30, [], t125, n, 0)) rfl (fun _ => rfl) rfl ?_
        exact ps_c_945_1 hp _ _ t125 (by first | decide | omega) g125 E125 (fun c i h => (e125 c i (by first | decide | omega)).trans ((e118 c i (by first | decide | omega)).trans ((e109 c i (by first | decide | omega)).trans ((e104 c i (by first | decide | omega)).trans ((f101 c i (by first | decide | omega)).trans (e0 c i h)))))) l30_0 l30_1 l30_2 hl30
      · refine gx_2f (c := .ne) rfl (by first | decide | omega) (by first | decide | omega) hc24 rfl ?_
        refine gx_ld (i := 0) (d := 2) (v := gx_r 383) rfl (fun _ => rfl) l23_0 rfl rfl ?_
        refine gx_ld (i := 0) (d := 2) (v := gx_r 383) rfl (fun _ => rfl) l23_0 rfl rfl ?_
        refine gx_ref (c := 399) rfl g118 rfl rfl rfl rfl ?_
        refine gx_ld (i := 1) (d := 0) (v := .inl 945) rfl (fun _ => rfl) l23_1 rfl rfl ?_
        refine ex_go (S := (138, l23, [.inl 13, .inl 945, gx_r 399, gx_r 383, .inl 958, gx_r 399], t118, n, 0)) rfl (fun _ => rfl) rfl ?_
        refine ex_go (S := (139, l23, [.inl 958, gx_r 399, gx_r 383, .inl 958, gx_r 399], t118, n, 0)) rfl (fun _ => rfl) rfl ?_
        refine gx_ld (i := 3) (d := 0) (v := .inl 0) rfl (fun _ => rfl) l23_3 rfl rfl ?_
        refine ex_go (S := (141, l23, [.inl 958, gx_r 399, gx_r 383, .inl 958, gx_r 399], t118, n, 0)) rfl (fun _ => rfl) rfl ?_
        obtain ⟨m31, k32, m31l, m31h⟩ := gx_in (c := 399) (i := 958) (lo := 0) (hi := 63) g118 rfl rfl rfl rfl
        refine gx_ag (v := .inl m31) (cb := fun c => Nat.beq c 0) rfl (fun _ => rfl) g118 rfl rfl k32 (by first | decide | omega) rfl ?_
        obtain ⟨v133, t133, r133, g133, E133, vb133, e133⟩ := hp.2.2.1 t118 n m31 g118 E118 (by first | decide | omega)
        refine gx_call1 rfl rfl g118 rfl rfl r133 rfl ?_
        have f133 : ∀ c i, ¬ (c = 0 ∧ c = 1) → ai_hv t133 c i = ai_hv t118 c i := fun c i _ => e133 c i
        have k34 : ai_hv t133 399 960 = some (.inl 0) := (f133 399 960 (by first | decide | omega)).trans k19
        have k35 : ai_hv t133 399 945 = some (.inl m5) := (f133 399 945 (by first | decide | omega)).trans k20
        have k36 : ai_hv t133 399 956 = some (.inl m7) := (f133 399 956 (by first | decide | omega)).trans k21
        have k37 : ai_hv t133 399 952 = some (.inl (m14 - v109)) := (f133 399 952 (by first | decide | omega)).trans k118
        have k38 : ai_hv t133 399 958 = some (.inl m31) := (f133 399 958 (by first | decide | omega)).trans k32
        refine ex_go (S := (149, l23, [.inl v133, .inl 958, gx_r 399], t133, n, 0)) rfl (fun _ => rfl) rfl ?_
        refine gx_ap rfl (fun _ => rfl) g133 rfl rfl rfl (show 958 < 1035 from by omega) rfl (ai_in_h (by first | decide | omega) (by first | decide | omega) (by first | decide | omega)) rfl (fun t139 g139 k139 e139 => ?_)
        have k40 : ai_hv t139 399 960 = some (.inl 0) := (e139 399 960 (by first | decide | omega)).trans k34
        have k41 : ai_hv t139 399 945 = some (.inl m5) := (e139 399 945 (by first | decide | omega)).trans k35
        have k42 : ai_hv t139 399 956 = some (.inl m7) := (e139 399 956 (by first | decide | omega)).trans k36
        have k43 : ai_hv t139 399 952 = some (.inl (m14 - v109)) := (e139 399 952 (by first | decide | omega)).trans k37
        have E139 := px_E_st E133 e139 (by first | decide | omega) (by first | decide | omega)
        refine gx_incS (i := 3) (a := 0) (x := 1) rfl (fun _ => rfl) l23_3 (by first | decide | omega) rfl (fun l44 hl44 ml44 => ?_)
        have l44_0 : en_ld l44 0 = some (gx_r 383) := ml44 0 _ l23_0 rfl
        have l44_1 : en_ld l44 1 = some (.inl 945) := ml44 1 _ l23_1 rfl
        have l44_4 : en_ld l44 4 = some (.inl v109) := ml44 4 _ l23_4 rfl
        have l44_2 : en_ld l44 2 = some (.inl z22) := ml44 2 _ hl23 rfl
        refine ex_go (S := (4, l44, [], t139, n, 0)) rfl (fun _ => rfl) rfl ?_
        exact ps_c_945_1 hp _ _ t139 (by first | decide | omega) g139 E139 (fun c i h => (e139 c i (by first | decide | omega)).trans ((f133 c i (by first | decide | omega)).trans ((e118 c i (by first | decide | omega)).trans ((e109 c i (by first | decide | omega)).trans ((e104 c i (by first | decide | omega)).trans ((f101 c i (by first | decide | omega)).trans (e0 c i h))))))) l44_0 l44_1 l44_2 hl44
    · refine gx_2f (c := .le) rfl (by first | decide | omega) (by first | decide | omega) hc16 rfl ?_
      refine gx_ld (i := 0) (d := 2) (v := gx_r 383) rfl (fun _ => rfl) l13_0 rfl rfl ?_
      refine gx_ref (c := 399) rfl g109 rfl rfl rfl rfl ?_
      refine gx_ld (i := 1) (d := 0) (v := .inl 945) rfl (fun _ => rfl) l13_1 rfl rfl ?_
      refine ex_go (S := (73, l13, [.inl 7, .inl 945, gx_r 399], t109, n, 0)) rfl (fun _ => rfl) rfl ?_
      refine ex_go (S := (74, l13, [.inl 952, gx_r 399], t109, n, 0)) rfl (fun _ => rfl) rfl ?_
      refine gx_ld (i := 3) (d := 0) (v := .inl 0) rfl (fun _ => rfl) l13_3 rfl rfl ?_
      refine ex_go (S := (76, l13, [.inl 952, gx_r 399], t109, n, 0)) rfl (fun _ => rfl) rfl ?_
      refine gx_ag (v := .inl m14) (cb := fun c => Nat.beq c 0) rfl (fun _ => rfl) g109 rfl rfl k15 (by first | decide | omega) rfl ?_
      refine ex_go (S := (82, l13, [.inl m14], t109, n, 0)) rfl (fun _ => rfl) rfl ?_
      refine gx_sto (i := 4) (d := 0) rfl (fun _ => rfl) rfl rfl (fun l45 hl45 ml45 => ?_)
      have l45_0 : en_ld l45 0 = some (gx_r 383) := ml45 0 _ l13_0 rfl
      have l45_1 : en_ld l45 1 = some (.inl 945) := ml45 1 _ l13_1 rfl
      have l45_2 : en_ld l45 2 = some (.inl z) := ml45 2 _ l13_2 rfl
      have l45_3 : en_ld l45 3 = some (.inl 0) := ml45 3 _ l13_3 rfl
      refine gx_ld (i := 0) (d := 2) (v := gx_r 383) rfl (fun _ => rfl) l45_0 rfl rfl ?_
      refine gx_ref (c := 399) rfl g109 rfl rfl rfl rfl ?_
      refine gx_ld (i := 1) (d := 0) (v := .inl 945) rfl (fun _ => rfl) l45_1 rfl rfl ?_
      refine ex_go (S := (91, l45, [.inl 7, .inl 945, gx_r 399], t109, n, 0)) rfl (fun _ => rfl) rfl ?_
      refine ex_go (S := (92, l45, [.inl 952, gx_r 399], t109, n, 0)) rfl (fun _ => rfl) rfl ?_
      refine gx_ld (i := 3) (d := 0) (v := .inl 0) rfl (fun _ => rfl) l45_3 rfl rfl ?_
      refine ex_go (S := (94, l45, [.inl 952, gx_r 399], t109, n, 0)) rfl (fun _ => rfl) rfl ?_
      refine ex_go (S := (95, l45, [.inl 952, gx_r 399, .inl 952, gx_r 399], t109, n, 0)) rfl (fun _ => rfl) rfl ?_
      refine gx_ag (v := .inl m14) (cb := fun c => Nat.beq c 0) rfl (fun _ => rfl) g109 rfl rfl k15 (by first | decide | omega) rfl ?_
      refine gx_ld (i := 4) (d := 0) (v := .inl m14) rfl (fun _ => rfl) hl45 rfl rfl ?_
      refine gx_isub rfl (by first | decide | omega) (by first | decide | omega) rfl ?_
      refine gx_ap rfl (fun _ => rfl) g109 rfl rfl rfl (show 952 < 1035 from by omega) rfl (ai_in_h (by first | decide | omega) (by first | decide | omega) (by first | decide | omega)) rfl (fun t146 g146 k146 e146 => ?_)
      have k47 : ai_hv t146 399 960 = some (.inl 0) := (e146 399 960 (by first | decide | omega)).trans k10
      have k48 : ai_hv t146 399 945 = some (.inl m5) := (e146 399 945 (by first | decide | omega)).trans k11
      have k49 : ai_hv t146 399 956 = some (.inl m7) := (e146 399 956 (by first | decide | omega)).trans k12
      have E146 := px_E_bis (b := 21) (y := 7) E109 e146 k15 k146 (by decide) (by first | decide | omega) (by first | decide | omega)
      refine gx_ld (i := 2) (d := 0) (v := .inl z) rfl (fun _ => rfl) l45_2 rfl rfl ?_
      refine gx_ld (i := 4) (d := 0) (v := .inl m14) rfl (fun _ => rfl) hl45 rfl rfl ?_
      refine gx_iaddw rfl rfl (fun z50 z50b => ?_)
      refine gx_sto (i := 2) (d := 0) rfl (fun _ => rfl) rfl rfl (fun l51 hl51 ml51 => ?_)
      have l51_0 : en_ld l51 0 = some (gx_r 383) := ml51 0 _ l45_0 rfl
      have l51_1 : en_ld l51 1 = some (.inl 945) := ml51 1 _ l45_1 rfl
      have l51_3 : en_ld l51 3 = some (.inl 0) := ml51 3 _ l45_3 rfl
      have l51_4 : en_ld l51 4 = some (.inl m14) := ml51 4 _ hl45 rfl
      refine gx_ld (i := 0) (d := 2) (v := gx_r 383) rfl (fun _ => rfl) l51_0 rfl rfl ?_
      refine gx_ref (c := 399) rfl g146 rfl rfl rfl rfl ?_
      refine gx_ld (i := 1) (d := 0) (v := .inl 945) rfl (fun _ => rfl) l51_1 rfl rfl ?_
      refine ex_go (S := (112, l51, [.inl 13, .inl 945, gx_r 399], t146, n, 0)) rfl (fun _ => rfl) rfl ?_
      refine ex_go (S := (113, l51, [.inl 958, gx_r 399], t146, n, 0)) rfl (fun _ => rfl) rfl ?_
      refine gx_ld (i := 3) (d := 0) (v := .inl 0) rfl (fun _ => rfl) l51_3 rfl rfl ?_
      refine ex_go (S := (115, l51, [.inl 958, gx_r 399], t146, n, 0)) rfl (fun _ => rfl) rfl ?_
      refine gx_ld (i := 0) (d := 2) (v := gx_r 383) rfl (fun _ => rfl) l51_0 rfl rfl ?_
      refine gx_ref (c := 399) rfl g146 rfl rfl rfl rfl ?_
      refine gx_ld (i := 1) (d := 0) (v := .inl 945) rfl (fun _ => rfl) l51_1 rfl rfl ?_
      refine ex_go (S := (122, l51, [.inl 11, .inl 945, gx_r 399, .inl 958, gx_r 399], t146, n, 0)) rfl (fun _ => rfl) rfl ?_
      refine ex_go (S := (123, l51, [.inl 956, gx_r 399, .inl 958, gx_r 399], t146, n, 0)) rfl (fun _ => rfl) rfl ?_
      refine gx_ld (i := 3) (d := 0) (v := .inl 0) rfl (fun _ => rfl) l51_3 rfl rfl ?_
      refine ex_go (S := (125, l51, [.inl 956, gx_r 399, .inl 958, gx_r 399], t146, n, 0)) rfl (fun _ => rfl) rfl ?_
      refine gx_ag (v := .inl m7) (cb := fun c => Nat.beq c 0) rfl (fun _ => rfl) g146 rfl rfl k49 (by first | decide | omega) rfl ?_
      refine ex_go (S := (127, l51, [.inl 1, .inl m7, .inl 958, gx_r 399], t146, n, 0)) rfl (fun _ => rfl) rfl ?_
      by_cases hc52 : m7 ≠ 1
      · refine gx_2t (c := .ne) rfl (by first | decide | omega) (by first | decide | omega) hc52 rfl ?_
        refine ex_go (S := (149, l51, [.inl 0, .inl 958, gx_r 399], t146, n, 0)) rfl (fun _ => rfl) rfl ?_
        refine gx_ap rfl (fun _ => rfl) g146 rfl rfl rfl (show 958 < 1035 from by omega) rfl (ai_in_h (by first | decide | omega) (by first | decide | omega) (by first | decide | omega)) rfl (fun t153 g153 k153 e153 => ?_)
        have k54 : ai_hv t153 399 960 = some (.inl 0) := (e153 399 960 (by first | decide | omega)).trans k47
        have k55 : ai_hv t153 399 945 = some (.inl m5) := (e153 399 945 (by first | decide | omega)).trans k48
        have k56 : ai_hv t153 399 956 = some (.inl m7) := (e153 399 956 (by first | decide | omega)).trans k49
        have k57 : ai_hv t153 399 952 = some (.inl (m14 - m14)) := (e153 399 952 (by first | decide | omega)).trans k146
        have E153 := px_E_st E146 e153 (by first | decide | omega) (by first | decide | omega)
        refine gx_incS (i := 3) (a := 0) (x := 1) rfl (fun _ => rfl) l51_3 (by first | decide | omega) rfl (fun l58 hl58 ml58 => ?_)
        have l58_0 : en_ld l58 0 = some (gx_r 383) := ml58 0 _ l51_0 rfl
        have l58_1 : en_ld l58 1 = some (.inl 945) := ml58 1 _ l51_1 rfl
        have l58_4 : en_ld l58 4 = some (.inl m14) := ml58 4 _ l51_4 rfl
        have l58_2 : en_ld l58 2 = some (.inl z50) := ml58 2 _ hl51 rfl
        refine ex_go (S := (4, l58, [], t153, n, 0)) rfl (fun _ => rfl) rfl ?_
        exact ps_c_945_1 hp _ _ t153 (by first | decide | omega) g153 E153 (fun c i h => (e153 c i (by first | decide | omega)).trans ((e146 c i (by first | decide | omega)).trans ((e109 c i (by first | decide | omega)).trans ((e104 c i (by first | decide | omega)).trans ((f101 c i (by first | decide | omega)).trans (e0 c i h)))))) l58_0 l58_1 l58_2 hl58
      · refine gx_2f (c := .ne) rfl (by first | decide | omega) (by first | decide | omega) hc52 rfl ?_
        refine gx_ld (i := 0) (d := 2) (v := gx_r 383) rfl (fun _ => rfl) l51_0 rfl rfl ?_
        refine gx_ld (i := 0) (d := 2) (v := gx_r 383) rfl (fun _ => rfl) l51_0 rfl rfl ?_
        refine gx_ref (c := 399) rfl g146 rfl rfl rfl rfl ?_
        refine gx_ld (i := 1) (d := 0) (v := .inl 945) rfl (fun _ => rfl) l51_1 rfl rfl ?_
        refine ex_go (S := (138, l51, [.inl 13, .inl 945, gx_r 399, gx_r 383, .inl 958, gx_r 399], t146, n, 0)) rfl (fun _ => rfl) rfl ?_
        refine ex_go (S := (139, l51, [.inl 958, gx_r 399, gx_r 383, .inl 958, gx_r 399], t146, n, 0)) rfl (fun _ => rfl) rfl ?_
        refine gx_ld (i := 3) (d := 0) (v := .inl 0) rfl (fun _ => rfl) l51_3 rfl rfl ?_
        refine ex_go (S := (141, l51, [.inl 958, gx_r 399, gx_r 383, .inl 958, gx_r 399], t146, n, 0)) rfl (fun _ => rfl) rfl ?_
        obtain ⟨m59, k60, m59l, m59h⟩ := gx_in (c := 399) (i := 958) (lo := 0) (hi := 63) g146 rfl rfl rfl rfl
        refine gx_ag (v := .inl m59) (cb := fun c => Nat.beq c 0) rfl (fun _ => rfl) g146 rfl rfl k60 (by first | decide | omega) rfl ?_
        obtain ⟨v161, t161, r161, g161, E161, vb161, e161⟩ := hp.2.2.1 t146 n m59 g146 E146 (by first | decide | omega)
        refine gx_call1 rfl rfl g146 rfl rfl r161 rfl ?_
        have f161 : ∀ c i, ¬ (c = 0 ∧ c = 1) → ai_hv t161 c i = ai_hv t146 c i := fun c i _ => e161 c i
        have k62 : ai_hv t161 399 960 = some (.inl 0) := (f161 399 960 (by first | decide | omega)).trans k47
        have k63 : ai_hv t161 399 945 = some (.inl m5) := (f161 399 945 (by first | decide | omega)).trans k48
        have k64 : ai_hv t161 399 956 = some (.inl m7) := (f161 399 956 (by first | decide | omega)).trans k49
        have k65 : ai_hv t161 399 952 = some (.inl (m14 - m14)) := (f161 399 952 (by first | decide | omega)).trans k146
        have k66 : ai_hv t161 399 958 = some (.inl m59) := (f161 399 958 (by first | decide | omega)).trans k60
        refine ex_go (S := (149, l51, [.inl v161, .inl 958, gx_r 399], t161, n, 0)) rfl (fun _ => rfl) rfl ?_
        refine gx_ap rfl (fun _ => rfl) g161 rfl rfl rfl (show 958 < 1035 from by omega) rfl (ai_in_h (by first | decide | omega) (by first | decide | omega) (by first | decide | omega)) rfl (fun t167 g167 k167 e167 => ?_)
        have k68 : ai_hv t167 399 960 = some (.inl 0) := (e167 399 960 (by first | decide | omega)).trans k62
        have k69 : ai_hv t167 399 945 = some (.inl m5) := (e167 399 945 (by first | decide | omega)).trans k63
        have k70 : ai_hv t167 399 956 = some (.inl m7) := (e167 399 956 (by first | decide | omega)).trans k64
        have k71 : ai_hv t167 399 952 = some (.inl (m14 - m14)) := (e167 399 952 (by first | decide | omega)).trans k65
        have E167 := px_E_st E161 e167 (by first | decide | omega) (by first | decide | omega)
        refine gx_incS (i := 3) (a := 0) (x := 1) rfl (fun _ => rfl) l51_3 (by first | decide | omega) rfl (fun l72 hl72 ml72 => ?_)
        have l72_0 : en_ld l72 0 = some (gx_r 383) := ml72 0 _ l51_0 rfl
        have l72_1 : en_ld l72 1 = some (.inl 945) := ml72 1 _ l51_1 rfl
        have l72_4 : en_ld l72 4 = some (.inl m14) := ml72 4 _ l51_4 rfl
        have l72_2 : en_ld l72 2 = some (.inl z50) := ml72 2 _ hl51 rfl
        refine ex_go (S := (4, l72, [], t167, n, 0)) rfl (fun _ => rfl) rfl ?_
        exact ps_c_945_1 hp _ _ t167 (by first | decide | omega) g167 E167 (fun c i h => (e167 c i (by first | decide | omega)).trans ((f161 c i (by first | decide | omega)).trans ((e146 c i (by first | decide | omega)).trans ((e109 c i (by first | decide | omega)).trans ((e104 c i (by first | decide | omega)).trans ((f101 c i (by first | decide | omega)).trans (e0 c i h))))))) l72_0 l72_1 l72_2 hl72
theorem pk_passes945 (d n : Nat) {tb : en_H} (hp : gx_pass (en_u d)) (g0 : ai_HG ah_G tb) (hE : ai_E tb) : ∃ r, en_u (d + 1) 116 [gx_r 383, .inl 945] tb n = some r ∧ ∃ v t', r = (some (.inl v), t', n, 0) ∧ v < 4294967296 ∧ ai_HG ah_G t' ∧ ai_E t' ∧ (∀ c i, ¬ ((c = 397 ∧ i ≤ 3) ∨ (c = 398 ∧ i ≤ 1099) ∨ (c = 399 ∧ 945 ≤ i ∧ i ≤ 1034)) → ai_hv t' c i = ai_hv tb c i) := by
  refine en_u_ex rfl ?_
  show en_ex _ _ _ _ (0, [(0, gx_r 383), (1, .inl 945)], [], tb, n, 0) _
  refine ex_go (S := (1, [(0, gx_r 383), (1, .inl 945)], [.inl 0], tb, n, 0)) rfl (fun _ => rfl) rfl ?_
  refine ex_go (S := (2, [(2, .inl 0), (0, gx_r 383), (1, .inl 945)], [], tb, n, 0)) rfl (fun _ => rfl) rfl ?_
  refine ex_go (S := (3, [(2, .inl 0), (0, gx_r 383), (1, .inl 945)], [.inl 0], tb, n, 0)) rfl (fun _ => rfl) rfl ?_
  refine ex_go (S := (4, [(3, .inl 0), (2, .inl 0), (0, gx_r 383), (1, .inl 945)], [], tb, n, 0)) rfl (fun _ => rfl) rfl ?_
  exact ps_c_945_0 hp 0 _ tb (by first | decide | omega) g0 hE (fun c i h => rfl) rfl rfl rfl rfl
theorem pl_run_990 {i : Nat} (k : Nat) (hk : k < 6) (e : i = 991 + 1 * k) : ai_run ah_399.2.2.2 i = some (.inl (2147483648, 2147483711)) := gx_at (by decide +kernel) k hk e
set_option maxRecDepth 100000 in
theorem ps_t_990 {fn : en_F} (hp : gx_pass fn) {n : Nat} {tb : en_H} : ∀ j k z cl t0, k + j = 6 → z < 4294967296 → ai_HG ah_G t0 → ai_E t0 → (∀ c i, ¬ ((c = 397 ∧ i ≤ 3) ∨ (c = 398 ∧ i ≤ 1099) ∨ (c = 399 ∧ 945 ≤ i ∧ i ≤ 1034)) → ai_hv t0 c i = ai_hv tb c i) → en_ld cl 0 = some (gx_r 383) → en_ld cl 1 = some (.inl 990) → en_ld cl 2 = some (.inl z) → en_ld cl 3 = some (.inl k) → en_ex none fn (en_code 116) (fun _ => false) (158, cl, [], t0, n, 0) (fun o => ∃ r, o = .inl r ∧ ∃ v t', r = (some (.inl v), t', n, 0) ∧ v < 4294967296 ∧ ai_HG ah_G t' ∧ ai_E t' ∧ (∀ c i, ¬ ((c = 397 ∧ i ≤ 3) ∨ (c = 398 ∧ i ≤ 1099) ∨ (c = 399 ∧ 945 ≤ i ∧ i ≤ 1034)) → ai_hv t' c i = ai_hv tb c i)) := by
  intro j
  induction j with
  | zero =>
    intro k z cl t0 hk hz g0 E0 e0 h0 h1 h2 h3
    refine gx_ld (i := 3) (d := 0) (v := .inl k) rfl (fun _ => rfl) h3 rfl rfl ?_
    refine gx_ld (i := 0) (d := 2) (v := gx_r 383) rfl (fun _ => rfl) h0 rfl rfl ?_
    obtain ⟨v101, t101, r101, g101, E101, vb101, e101⟩ := hp.2.1 t0 n  g0 E0 
    refine gx_call1 rfl rfl g0 rfl rfl r101 rfl ?_
    have f101 : ∀ c i, ¬ (c = 0 ∧ c = 1) → ai_hv t101 c i = ai_hv t0 c i := fun c i _ => e101 c i
    refine gx_2t (c := .ge) rfl (by first | decide | omega) (by first | decide | omega) (show v101 ≤ k from by omega) rfl ?_
    refine gx_ld (i := 0) (d := 2) (v := gx_r 383) rfl (fun _ => rfl) h0 rfl rfl ?_
    refine gx_ref (c := 399) rfl g101 rfl rfl rfl rfl ?_
    refine gx_ld (i := 1) (d := 0) (v := .inl 990) rfl (fun _ => rfl) h1 rfl rfl ?_
    refine ex_go (S := (202, cl, [.inl 0, .inl 990, gx_r 399], t101, n, 0)) rfl (fun _ => rfl) rfl ?_
    refine ex_go (S := (203, cl, [.inl 990, gx_r 399], t101, n, 0)) rfl (fun _ => rfl) rfl ?_
    refine ex_go (S := (204, cl, [.inl 990, gx_r 399, .inl 990, gx_r 399], t101, n, 0)) rfl (fun _ => rfl) rfl ?_
    obtain ⟨m2, k3, m2b⟩ := gx_any (c := 399) (i := 990) g101 rfl rfl rfl
    refine gx_ag (v := .inl m2) (cb := fun c => Nat.beq c 0) rfl (fun _ => rfl) g101 rfl rfl k3 (by first | decide | omega) rfl ?_
    refine ex_go (S := (206, cl, [.inl 1, .inl m2, .inl 990, gx_r 399], t101, n, 0)) rfl (fun _ => rfl) rfl ?_
    refine gx_iaddw rfl rfl (fun z4 z4b => ?_)
    refine gx_ap rfl (fun _ => rfl) g101 rfl rfl rfl (show 990 < 1035 from by omega) rfl (gx_full (by first | decide | omega)) rfl (fun t105 g105 k105 e105 => ?_)
    have E105 := px_E_st E101 e105 (by first | decide | omega) (by first | decide | omega)
    refine gx_ld (i := 2) (d := 0) (v := .inl z) rfl (fun _ => rfl) h2 rfl rfl ?_
    refine ex_ret (r := (some (.inl z), t105, n, 0)) rfl (fun _ => rfl) ?_
    exact ⟨_, rfl, z, t105, rfl, by omega, g105, E105, (fun c i h => (e105 c i (by first | decide | omega)).trans ((f101 c i (by first | decide | omega)).trans (e0 c i h)))⟩
  | succ j ih =>
    intro k z cl t0 hk hz g0 E0 e0 h0 h1 h2 h3
    refine gx_ld (i := 3) (d := 0) (v := .inl k) rfl (fun _ => rfl) h3 rfl rfl ?_
    refine gx_ld (i := 0) (d := 2) (v := gx_r 383) rfl (fun _ => rfl) h0 rfl rfl ?_
    obtain ⟨v101, t101, r101, g101, E101, vb101, e101⟩ := hp.2.1 t0 n  g0 E0 
    refine gx_call1 rfl rfl g0 rfl rfl r101 rfl ?_
    have f101 : ∀ c i, ¬ (c = 0 ∧ c = 1) → ai_hv t101 c i = ai_hv t0 c i := fun c i _ => e101 c i
    by_cases hc2 : v101 ≤ k
    · refine gx_2t (c := .ge) rfl (by first | decide | omega) (by first | decide | omega) hc2 rfl ?_
      refine gx_ld (i := 0) (d := 2) (v := gx_r 383) rfl (fun _ => rfl) h0 rfl rfl ?_
      refine gx_ref (c := 399) rfl g101 rfl rfl rfl rfl ?_
      refine gx_ld (i := 1) (d := 0) (v := .inl 990) rfl (fun _ => rfl) h1 rfl rfl ?_
      refine ex_go (S := (202, cl, [.inl 0, .inl 990, gx_r 399], t101, n, 0)) rfl (fun _ => rfl) rfl ?_
      refine ex_go (S := (203, cl, [.inl 990, gx_r 399], t101, n, 0)) rfl (fun _ => rfl) rfl ?_
      refine ex_go (S := (204, cl, [.inl 990, gx_r 399, .inl 990, gx_r 399], t101, n, 0)) rfl (fun _ => rfl) rfl ?_
      obtain ⟨m3, k4, m3b⟩ := gx_any (c := 399) (i := 990) g101 rfl rfl rfl
      refine gx_ag (v := .inl m3) (cb := fun c => Nat.beq c 0) rfl (fun _ => rfl) g101 rfl rfl k4 (by first | decide | omega) rfl ?_
      refine ex_go (S := (206, cl, [.inl 1, .inl m3, .inl 990, gx_r 399], t101, n, 0)) rfl (fun _ => rfl) rfl ?_
      refine gx_iaddw rfl rfl (fun z5 z5b => ?_)
      refine gx_ap rfl (fun _ => rfl) g101 rfl rfl rfl (show 990 < 1035 from by omega) rfl (gx_full (by first | decide | omega)) rfl (fun t106 g106 k106 e106 => ?_)
      have E106 := px_E_st E101 e106 (by first | decide | omega) (by first | decide | omega)
      refine gx_ld (i := 2) (d := 0) (v := .inl z) rfl (fun _ => rfl) h2 rfl rfl ?_
      refine ex_ret (r := (some (.inl z), t106, n, 0)) rfl (fun _ => rfl) ?_
      exact ⟨_, rfl, z, t106, rfl, by omega, g106, E106, (fun c i h => (e106 c i (by first | decide | omega)).trans ((f101 c i (by first | decide | omega)).trans (e0 c i h)))⟩
    · refine gx_2f (c := .ge) rfl (by first | decide | omega) (by first | decide | omega) hc2 rfl ?_
      refine gx_ld (i := 0) (d := 2) (v := gx_r 383) rfl (fun _ => rfl) h0 rfl rfl ?_
      refine gx_ref (c := 399) rfl g101 rfl rfl rfl rfl ?_
      refine gx_ld (i := 1) (d := 0) (v := .inl 990) rfl (fun _ => rfl) h1 rfl rfl ?_
      refine ex_go (S := (172, cl, [.inl 1, .inl 990, gx_r 399], t101, n, 0)) rfl (fun _ => rfl) rfl ?_
      refine ex_go (S := (173, cl, [.inl 991, gx_r 399], t101, n, 0)) rfl (fun _ => rfl) rfl ?_
      refine gx_ld (i := 3) (d := 0) (v := .inl k) rfl (fun _ => rfl) h3 rfl rfl ?_
      refine ex_iadd rfl (by first | decide | omega) rfl ?_
      refine gx_ld (i := 0) (d := 2) (v := gx_r 383) rfl (fun _ => rfl) h0 rfl rfl ?_
      refine gx_ld (i := 0) (d := 2) (v := gx_r 383) rfl (fun _ => rfl) h0 rfl rfl ?_
      refine gx_ref (c := 399) rfl g101 rfl rfl rfl rfl ?_
      refine gx_ld (i := 1) (d := 0) (v := .inl 990) rfl (fun _ => rfl) h1 rfl rfl ?_
      refine ex_go (S := (182, cl, [.inl 1, .inl 990, gx_r 399, gx_r 383, .inl (991 + k), gx_r 399], t101, n, 0)) rfl (fun _ => rfl) rfl ?_
      refine ex_go (S := (183, cl, [.inl 991, gx_r 399, gx_r 383, .inl (991 + k), gx_r 399], t101, n, 0)) rfl (fun _ => rfl) rfl ?_
      refine gx_ld (i := 3) (d := 0) (v := .inl k) rfl (fun _ => rfl) h3 rfl rfl ?_
      refine ex_iadd rfl (by first | decide | omega) rfl ?_
      obtain ⟨m7, k8, m7l, m7h⟩ := gx_inb (c := 399) (i := 991 + k) (lo := 0) (hi := 63) g101 rfl (show 991 + k < 1035 from by omega) (pl_run_990 k (by first | decide | omega) (by first | decide | omega)) (by decide) (by decide) rfl
      refine gx_ag (v := .inl m7) (cb := fun c => Nat.beq c 0) rfl (fun _ => rfl) g101 rfl rfl k8 (by first | decide | omega) rfl ?_
      obtain ⟨v109, t109, r109, g109, E109, vb109, e109⟩ := hp.2.2.1 t101 n m7 g101 E101 (by first | decide | omega)
      refine gx_call1 rfl rfl g101 rfl rfl r109 rfl ?_
      have f109 : ∀ c i, ¬ (c = 0 ∧ c = 1) → ai_hv t109 c i = ai_hv t101 c i := fun c i _ => e109 c i
      have k10 : ai_hv t109 399 (991 + k) = some (.inl m7) := (f109 399 (991 + k) (by first | decide | omega)).trans k8
      refine gx_ap rfl (fun _ => rfl) g109 rfl rfl rfl (show 991 + k < 1035 from by omega) (pl_run_990 k (by first | decide | omega) (by first | decide | omega)) (ai_in_h (by first | decide | omega) (by first | decide | omega) (by first | decide | omega)) rfl (fun t111 g111 k111 e111 => ?_)
      have E111 := px_E_st E109 e111 (by first | decide | omega) (by first | decide | omega)
      refine gx_incS (i := 3) (a := k) (x := 1) rfl (fun _ => rfl) h3 (by first | decide | omega) rfl (fun l12 hl12 ml12 => ?_)
      have l12_0 : en_ld l12 0 = some (gx_r 383) := ml12 0 _ h0 rfl
      have l12_1 : en_ld l12 1 = some (.inl 990) := ml12 1 _ h1 rfl
      have l12_2 : en_ld l12 2 = some (.inl z) := ml12 2 _ h2 rfl
      refine ex_go (S := (158, l12, [], t111, n, 0)) rfl (fun _ => rfl) rfl ?_
      exact ih (k + 1) z _ t111 (by first | decide | omega) hz g111 E111 (fun c i h => (e111 c i (by first | decide | omega)).trans ((f109 c i (by first | decide | omega)).trans ((f101 c i (by first | decide | omega)).trans (e0 c i h)))) l12_0 l12_1 l12_2 hl12
set_option maxRecDepth 100000 in
theorem ps_c_990_2 {fn : en_F} (hp : gx_pass fn) {n : Nat} {tb : en_H} (z : Nat) (cl : en_L) (t0 : en_H) (hz : z < 4294967296) (g0 : ai_HG ah_G t0) (E0 : ai_E t0) (e0 : (∀ c i, ¬ ((c = 397 ∧ i ≤ 3) ∨ (c = 398 ∧ i ≤ 1099) ∨ (c = 399 ∧ 945 ≤ i ∧ i ≤ 1034)) → ai_hv t0 c i = ai_hv tb c i)) (h0 : en_ld cl 0 = some (gx_r 383)) (h1 : en_ld cl 1 = some (.inl 990)) (h2 : en_ld cl 2 = some (.inl z)) (h3 : en_ld cl 3 = some (.inl 2)) : en_ex none fn (en_code 116) (fun _ => false) (4, cl, [], t0, n, 0) (fun o => ∃ r, o = .inl r ∧ ∃ v t', r = (some (.inl v), t', n, 0) ∧ v < 4294967296 ∧ ai_HG ah_G t' ∧ ai_E t' ∧ (∀ c i, ¬ ((c = 397 ∧ i ≤ 3) ∨ (c = 398 ∧ i ≤ 1099) ∨ (c = 399 ∧ 945 ≤ i ∧ i ≤ 1034)) → ai_hv t' c i = ai_hv tb c i)) := by
  refine gx_ld (i := 3) (d := 0) (v := .inl 2) rfl (fun _ => rfl) h3 rfl rfl ?_
  refine gx_ld (i := 0) (d := 2) (v := gx_r 383) rfl (fun _ => rfl) h0 rfl rfl ?_
  obtain ⟨v101, t101, r101, g101, E101, vb101, e101⟩ := hp.1 t0 n  g0 E0 
  refine gx_call1 rfl rfl g0 rfl rfl r101 rfl ?_
  have f101 : ∀ c i, ¬ (c = 0 ∧ c = 1) → ai_hv t101 c i = ai_hv t0 c i := fun c i _ => e101 c i
  refine gx_2t (c := .ge) rfl (by first | decide | omega) (by first | decide | omega) (show v101 ≤ 2 from by omega) rfl ?_
  refine ex_go (S := (157, cl, [.inl 0], t101, n, 0)) rfl (fun _ => rfl) rfl ?_
  refine gx_sto (i := 3) (d := 0) rfl (fun _ => rfl) rfl rfl (fun l2 hl2 ml2 => ?_)
  have l2_0 : en_ld l2 0 = some (gx_r 383) := ml2 0 _ h0 rfl
  have l2_1 : en_ld l2 1 = some (.inl 990) := ml2 1 _ h1 rfl
  have l2_2 : en_ld l2 2 = some (.inl z) := ml2 2 _ h2 rfl
  exact ps_t_990 hp 6 0 _ _ t101 (by first | decide | omega) (by first | decide | omega) g101 E101 (fun c i h => (f101 c i (by first | decide | omega)).trans (e0 c i h)) l2_0 l2_1 l2_2 hl2
set_option maxRecDepth 100000 in
theorem ps_c_990_1 {fn : en_F} (hp : gx_pass fn) {n : Nat} {tb : en_H} (z : Nat) (cl : en_L) (t0 : en_H) (hz : z < 4294967296) (g0 : ai_HG ah_G t0) (E0 : ai_E t0) (e0 : (∀ c i, ¬ ((c = 397 ∧ i ≤ 3) ∨ (c = 398 ∧ i ≤ 1099) ∨ (c = 399 ∧ 945 ≤ i ∧ i ≤ 1034)) → ai_hv t0 c i = ai_hv tb c i)) (h0 : en_ld cl 0 = some (gx_r 383)) (h1 : en_ld cl 1 = some (.inl 990)) (h2 : en_ld cl 2 = some (.inl z)) (h3 : en_ld cl 3 = some (.inl 1)) : en_ex none fn (en_code 116) (fun _ => false) (4, cl, [], t0, n, 0) (fun o => ∃ r, o = .inl r ∧ ∃ v t', r = (some (.inl v), t', n, 0) ∧ v < 4294967296 ∧ ai_HG ah_G t' ∧ ai_E t' ∧ (∀ c i, ¬ ((c = 397 ∧ i ≤ 3) ∨ (c = 398 ∧ i ≤ 1099) ∨ (c = 399 ∧ 945 ≤ i ∧ i ≤ 1034)) → ai_hv t' c i = ai_hv tb c i)) := by
  refine gx_ld (i := 3) (d := 0) (v := .inl 1) rfl (fun _ => rfl) h3 rfl rfl ?_
  refine gx_ld (i := 0) (d := 2) (v := gx_r 383) rfl (fun _ => rfl) h0 rfl rfl ?_
  obtain ⟨v101, t101, r101, g101, E101, vb101, e101⟩ := hp.1 t0 n  g0 E0 
  refine gx_call1 rfl rfl g0 rfl rfl r101 rfl ?_
  have f101 : ∀ c i, ¬ (c = 0 ∧ c = 1) → ai_hv t101 c i = ai_hv t0 c i := fun c i _ => e101 c i
  by_cases hc2 : v101 ≤ 1
  · refine gx_2t (c := .ge) rfl (by first | decide | omega) (by first | decide | omega) hc2 rfl ?_
    refine ex_go (S := (157, cl, [.inl 0], t101, n, 0)) rfl (fun _ => rfl) rfl ?_
    refine gx_sto (i := 3) (d := 0) rfl (fun _ => rfl) rfl rfl (fun l3 hl3 ml3 => ?_)
    have l3_0 : en_ld l3 0 = some (gx_r 383) := ml3 0 _ h0 rfl
    have l3_1 : en_ld l3 1 = some (.inl 990) := ml3 1 _ h1 rfl
    have l3_2 : en_ld l3 2 = some (.inl z) := ml3 2 _ h2 rfl
    exact ps_t_990 hp 6 0 _ _ t101 (by first | decide | omega) (by first | decide | omega) g101 E101 (fun c i h => (f101 c i (by first | decide | omega)).trans (e0 c i h)) l3_0 l3_1 l3_2 hl3
  · refine gx_2f (c := .ge) rfl (by first | decide | omega) (by first | decide | omega) hc2 rfl ?_
    refine gx_ld (i := 0) (d := 2) (v := gx_r 383) rfl (fun _ => rfl) h0 rfl rfl ?_
    refine gx_ref (c := 399) rfl g101 rfl rfl rfl rfl ?_
    refine gx_ld (i := 1) (d := 0) (v := .inl 990) rfl (fun _ => rfl) h1 rfl rfl ?_
    refine ex_go (S := (19, cl, [.inl 15, .inl 990, gx_r 399], t101, n, 0)) rfl (fun _ => rfl) rfl ?_
    refine ex_go (S := (20, cl, [.inl 1005, gx_r 399], t101, n, 0)) rfl (fun _ => rfl) rfl ?_
    refine gx_ld (i := 3) (d := 0) (v := .inl 1) rfl (fun _ => rfl) h3 rfl rfl ?_
    refine ex_go (S := (22, cl, [.inl 1006, gx_r 399], t101, n, 0)) rfl (fun _ => rfl) rfl ?_
    refine ex_go (S := (23, cl, [.inl 0, .inl 1006, gx_r 399], t101, n, 0)) rfl (fun _ => rfl) rfl ?_
    refine gx_ap rfl (fun _ => rfl) g101 rfl rfl rfl (show 1006 < 1035 from by omega) rfl (ai_in_h (by first | decide | omega) (by first | decide | omega) (by first | decide | omega)) rfl (fun t104 g104 k104 e104 => ?_)
    have E104 := px_E_st E101 e104 (by first | decide | omega) (by first | decide | omega)
    refine gx_ld (i := 0) (d := 2) (v := gx_r 383) rfl (fun _ => rfl) h0 rfl rfl ?_
    refine gx_ld (i := 3) (d := 0) (v := .inl 1) rfl (fun _ => rfl) h3 rfl rfl ?_
    refine gx_ld (i := 0) (d := 2) (v := gx_r 383) rfl (fun _ => rfl) h0 rfl rfl ?_
    refine gx_ref (c := 399) rfl g104 rfl rfl rfl rfl ?_
    refine gx_ld (i := 1) (d := 0) (v := .inl 990) rfl (fun _ => rfl) h1 rfl rfl ?_
    refine ex_go (S := (32, cl, [.inl 0, .inl 990, gx_r 399, .inl 1, gx_r 383], t104, n, 0)) rfl (fun _ => rfl) rfl ?_
    refine ex_go (S := (33, cl, [.inl 990, gx_r 399, .inl 1, gx_r 383], t104, n, 0)) rfl (fun _ => rfl) rfl ?_
    obtain ⟨m5, k6, m5b⟩ := gx_any (c := 399) (i := 990) g104 rfl rfl rfl
    refine gx_ag (v := .inl m5) (cb := fun c => Nat.beq c 0) rfl (fun _ => rfl) g104 rfl rfl k6 (by first | decide | omega) rfl ?_
    refine gx_ld (i := 0) (d := 2) (v := gx_r 383) rfl (fun _ => rfl) h0 rfl rfl ?_
    refine gx_ref (c := 399) rfl g104 rfl rfl rfl rfl ?_
    refine gx_ld (i := 1) (d := 0) (v := .inl 990) rfl (fun _ => rfl) h1 rfl rfl ?_
    refine ex_go (S := (41, cl, [.inl 11, .inl 990, gx_r 399, .inl m5, .inl 1, gx_r 383], t104, n, 0)) rfl (fun _ => rfl) rfl ?_
    refine ex_go (S := (42, cl, [.inl 1001, gx_r 399, .inl m5, .inl 1, gx_r 383], t104, n, 0)) rfl (fun _ => rfl) rfl ?_
    refine gx_ld (i := 3) (d := 0) (v := .inl 1) rfl (fun _ => rfl) h3 rfl rfl ?_
    refine ex_go (S := (44, cl, [.inl 1002, gx_r 399, .inl m5, .inl 1, gx_r 383], t104, n, 0)) rfl (fun _ => rfl) rfl ?_
    obtain ⟨m7, k8, m7l, m7h⟩ := gx_in (c := 399) (i := 1002) (lo := 0) (hi := 1) g104 rfl rfl rfl rfl
    refine gx_ag (v := .inl m7) (cb := fun c => Nat.beq c 0) rfl (fun _ => rfl) g104 rfl rfl k8 (by first | decide | omega) rfl ?_
    obtain ⟨v109, t109, r109, g109, E109, vb109, e109⟩ := hp.2.2.2 t104 n 1 m5 m7 g104 E104 (by first | decide | omega) (by first | decide | omega) (by first | decide | omega)
    refine gx_call1 rfl rfl g104 rfl rfl r109 rfl ?_
    have k10 : ai_hv t109 399 1006 = some (.inl 0) := (e109 399 1006 (by first | decide | omega)).trans k104
    have k11 : ai_hv t109 399 990 = some (.inl m5) := (e109 399 990 (by first | decide | omega)).trans k6
    have k12 : ai_hv t109 399 1002 = some (.inl m7) := (e109 399 1002 (by first | decide | omega)).trans k8
    refine gx_sto (i := 4) (d := 0) rfl (fun _ => rfl) rfl rfl (fun l13 hl13 ml13 => ?_)
    have l13_0 : en_ld l13 0 = some (gx_r 383) := ml13 0 _ h0 rfl
    have l13_1 : en_ld l13 1 = some (.inl 990) := ml13 1 _ h1 rfl
    have l13_2 : en_ld l13 2 = some (.inl z) := ml13 2 _ h2 rfl
    have l13_3 : en_ld l13 3 = some (.inl 1) := ml13 3 _ h3 rfl
    refine gx_ld (i := 4) (d := 0) (v := .inl v109) rfl (fun _ => rfl) hl13 rfl rfl ?_
    refine gx_ld (i := 0) (d := 2) (v := gx_r 383) rfl (fun _ => rfl) l13_0 rfl rfl ?_
    refine gx_ref (c := 399) rfl g109 rfl rfl rfl rfl ?_
    refine gx_ld (i := 1) (d := 0) (v := .inl 990) rfl (fun _ => rfl) l13_1 rfl rfl ?_
    refine ex_go (S := (59, l13, [.inl 7, .inl 990, gx_r 399, .inl v109], t109, n, 0)) rfl (fun _ => rfl) rfl ?_
    refine ex_go (S := (60, l13, [.inl 997, gx_r 399, .inl v109], t109, n, 0)) rfl (fun _ => rfl) rfl ?_
    refine gx_ld (i := 3) (d := 0) (v := .inl 1) rfl (fun _ => rfl) l13_3 rfl rfl ?_
    refine ex_go (S := (62, l13, [.inl 998, gx_r 399, .inl v109], t109, n, 0)) rfl (fun _ => rfl) rfl ?_
    obtain ⟨m14, k15, m14l, m14h⟩ := gx_in (c := 399) (i := 998) (lo := 0) (hi := 19998) g109 rfl rfl rfl rfl
    refine gx_ag (v := .inl m14) (cb := fun c => Nat.beq c 0) rfl (fun _ => rfl) g109 rfl rfl k15 (by first | decide | omega) rfl ?_
    by_cases hc16 : v109 ≤ m14
    · refine gx_2t (c := .le) rfl (by first | decide | omega) (by first | decide | omega) hc16 rfl ?_
      refine gx_ld (i := 4) (d := 0) (v := .inl v109) rfl (fun _ => rfl) hl13 rfl rfl ?_
      refine gx_sto (i := 4) (d := 0) rfl (fun _ => rfl) rfl rfl (fun l17 hl17 ml17 => ?_)
      have l17_0 : en_ld l17 0 = some (gx_r 383) := ml17 0 _ l13_0 rfl
      have l17_1 : en_ld l17 1 = some (.inl 990) := ml17 1 _ l13_1 rfl
      have l17_2 : en_ld l17 2 = some (.inl z) := ml17 2 _ l13_2 rfl
      have l17_3 : en_ld l17 3 = some (.inl 1) := ml17 3 _ l13_3 rfl
      refine gx_ld (i := 0) (d := 2) (v := gx_r 383) rfl (fun _ => rfl) l17_0 rfl rfl ?_
      refine gx_ref (c := 399) rfl g109 rfl rfl rfl rfl ?_
      refine gx_ld (i := 1) (d := 0) (v := .inl 990) rfl (fun _ => rfl) l17_1 rfl rfl ?_
      refine ex_go (S := (91, l17, [.inl 7, .inl 990, gx_r 399], t109, n, 0)) rfl (fun _ => rfl) rfl ?_
      refine ex_go (S := (92, l17, [.inl 997, gx_r 399], t109, n, 0)) rfl (fun _ => rfl) rfl ?_
      refine gx_ld (i := 3) (d := 0) (v := .inl 1) rfl (fun _ => rfl) l17_3 rfl rfl ?_
      refine ex_go (S := (94, l17, [.inl 998, gx_r 399], t109, n, 0)) rfl (fun _ => rfl) rfl ?_
      refine ex_go (S := (95, l17, [.inl 998, gx_r 399, .inl 998, gx_r 399], t109, n, 0)) rfl (fun _ => rfl) rfl ?_
      refine gx_ag (v := .inl m14) (cb := fun c => Nat.beq c 0) rfl (fun _ => rfl) g109 rfl rfl k15 (by first | decide | omega) rfl ?_
      refine gx_ld (i := 4) (d := 0) (v := .inl v109) rfl (fun _ => rfl) hl17 rfl rfl ?_
      refine gx_isub rfl (by first | decide | omega) (by first | decide | omega) rfl ?_
      refine gx_ap rfl (fun _ => rfl) g109 rfl rfl rfl (show 998 < 1035 from by omega) rfl (ai_in_h (by first | decide | omega) (by first | decide | omega) (by first | decide | omega)) rfl (fun t118 g118 k118 e118 => ?_)
      have k19 : ai_hv t118 399 1006 = some (.inl 0) := (e118 399 1006 (by first | decide | omega)).trans k10
      have k20 : ai_hv t118 399 990 = some (.inl m5) := (e118 399 990 (by first | decide | omega)).trans k11
      have k21 : ai_hv t118 399 1002 = some (.inl m7) := (e118 399 1002 (by first | decide | omega)).trans k12
      have E118 := px_E_bis (b := 22) (y := 8) E109 e118 k15 k118 (by decide) (by first | decide | omega) (by first | decide | omega)
      refine gx_ld (i := 2) (d := 0) (v := .inl z) rfl (fun _ => rfl) l17_2 rfl rfl ?_
      refine gx_ld (i := 4) (d := 0) (v := .inl v109) rfl (fun _ => rfl) hl17 rfl rfl ?_
      refine gx_iaddw rfl rfl (fun z22 z22b => ?_)
      refine gx_sto (i := 2) (d := 0) rfl (fun _ => rfl) rfl rfl (fun l23 hl23 ml23 => ?_)
      have l23_0 : en_ld l23 0 = some (gx_r 383) := ml23 0 _ l17_0 rfl
      have l23_1 : en_ld l23 1 = some (.inl 990) := ml23 1 _ l17_1 rfl
      have l23_3 : en_ld l23 3 = some (.inl 1) := ml23 3 _ l17_3 rfl
      have l23_4 : en_ld l23 4 = some (.inl v109) := ml23 4 _ hl17 rfl
      refine gx_ld (i := 0) (d := 2) (v := gx_r 383) rfl (fun _ => rfl) l23_0 rfl rfl ?_
      refine gx_ref (c := 399) rfl g118 rfl rfl rfl rfl ?_
      refine gx_ld (i := 1) (d := 0) (v := .inl 990) rfl (fun _ => rfl) l23_1 rfl rfl ?_
      refine ex_go (S := (112, l23, [.inl 13, .inl 990, gx_r 399], t118, n, 0)) rfl (fun _ => rfl) rfl ?_
      refine ex_go (S := (113, l23, [.inl 1003, gx_r 399], t118, n, 0)) rfl (fun _ => rfl) rfl ?_
      refine gx_ld (i := 3) (d := 0) (v := .inl 1) rfl (fun _ => rfl) l23_3 rfl rfl ?_
      refine ex_go (S := (115, l23, [.inl 1004, gx_r 399], t118, n, 0)) rfl (fun _ => rfl) rfl ?_
      refine gx_ld (i := 0) (d := 2) (v := gx_r 383) rfl (fun _ => rfl) l23_0 rfl rfl ?_
      refine gx_ref (c := 399) rfl g118 rfl rfl rfl rfl ?_
      refine gx_ld (i := 1) (d := 0) (v := .inl 990) rfl (fun _ => rfl) l23_1 rfl rfl ?_
      refine ex_go (S := (122, l23, [.inl 11, .inl 990, gx_r 399, .inl 1004, gx_r 399], t118, n, 0)) rfl (fun _ => rfl) rfl ?_
      refine ex_go (S := (123, l23, [.inl 1001, gx_r 399, .inl 1004, gx_r 399], t118, n, 0)) rfl (fun _ => rfl) rfl ?_
      refine gx_ld (i := 3) (d := 0) (v := .inl 1) rfl (fun _ => rfl) l23_3 rfl rfl ?_
      refine ex_go (S := (125, l23, [.inl 1002, gx_r 399, .inl 1004, gx_r 399], t118, n, 0)) rfl (fun _ => rfl) rfl ?_
      refine gx_ag (v := .inl m7) (cb := fun c => Nat.beq c 0) rfl (fun _ => rfl) g118 rfl rfl k21 (by first | decide | omega) rfl ?_
      refine ex_go (S := (127, l23, [.inl 1, .inl m7, .inl 1004, gx_r 399], t118, n, 0)) rfl (fun _ => rfl) rfl ?_
      by_cases hc24 : m7 ≠ 1
      · refine gx_2t (c := .ne) rfl (by first | decide | omega) (by first | decide | omega) hc24 rfl ?_
        refine ex_go (S := (149, l23, [.inl 0, .inl 1004, gx_r 399], t118, n, 0)) rfl (fun _ => rfl) rfl ?_
        refine gx_ap rfl (fun _ => rfl) g118 rfl rfl rfl (show 1004 < 1035 from by omega) rfl (ai_in_h (by first | decide | omega) (by first | decide | omega) (by first | decide | omega)) rfl (fun t125 g125 k125 e125 => ?_)
        have k26 : ai_hv t125 399 1006 = some (.inl 0) := (e125 399 1006 (by first | decide | omega)).trans k19
        have k27 : ai_hv t125 399 990 = some (.inl m5) := (e125 399 990 (by first | decide | omega)).trans k20
        have k28 : ai_hv t125 399 1002 = some (.inl m7) := (e125 399 1002 (by first | decide | omega)).trans k21
        have k29 : ai_hv t125 399 998 = some (.inl (m14 - v109)) := (e125 399 998 (by first | decide | omega)).trans k118
        have E125 := px_E_st E118 e125 (by first | decide | omega) (by first | decide | omega)
        refine gx_incS (i := 3) (a := 1) (x := 1) rfl (fun _ => rfl) l23_3 (by first | decide | omega) rfl (fun l30 hl30 ml30 => ?_)
        have l30_0 : en_ld l30 0 = some (gx_r 383) := ml30 0 _ l23_0 rfl
        have l30_1 : en_ld l30 1 = some (.inl 990) := ml30 1 _ l23_1 rfl
        have l30_4 : en_ld l30 4 = some (.inl v109) := ml30 4 _ l23_4 rfl
        have l30_2 : en_ld l30 2 = some (.inl z22) := ml30 2 _ hl23 rfl
        refine ex_go (S := (4, l30, [], t125, n, 0)) rfl (fun _ => rfl) rfl ?_
        exact ps_c_990_2 hp _ _ t125 (by first | decide | omega) g125 E125 (fun c i h => (e125 c i (by first | decide | omega)).trans ((e118 c i (by first | decide | omega)).trans ((e109 c i (by first | decide | omega)).trans ((e104 c i (by first | decide | omega)).trans ((f101 c i (by first | decide | omega)).trans (e0 c i h)))))) l30_0 l30_1 l30_2 hl30
      · refine gx_2f (c := .ne) rfl (by first | decide | omega) (by first | decide | omega) hc24 rfl ?_
        refine gx_ld (i := 0) (d := 2) (v := gx_r 383) rfl (fun _ => rfl) l23_0 rfl rfl ?_
        refine gx_ld (i := 0) (d := 2) (v := gx_r 383) rfl (fun _ => rfl) l23_0 rfl rfl ?_
        refine gx_ref (c := 399) rfl g118 rfl rfl rfl rfl ?_
        refine gx_ld (i := 1) (d := 0) (v := .inl 990) rfl (fun _ => rfl) l23_1 rfl rfl ?_
        refine ex_go (S := (138, l23, [.inl 13, .inl 990, gx_r 399, gx_r 383, .inl 1004, gx_r 399], t118, n, 0)) rfl (fun _ => rfl) rfl ?_
        refine ex_go (S := (139, l23, [.inl 1003, gx_r 399, gx_r 383, .inl 1004, gx_r 399], t118, n, 0)) rfl (fun _ => rfl) rfl ?_
        refine gx_ld (i := 3) (d := 0) (v := .inl 1) rfl (fun _ => rfl) l23_3 rfl rfl ?_
        refine ex_go (S := (141, l23, [.inl 1004, gx_r 399, gx_r 383, .inl 1004, gx_r 399], t118, n, 0)) rfl (fun _ => rfl) rfl ?_
        obtain ⟨m31, k32, m31l, m31h⟩ := gx_in (c := 399) (i := 1004) (lo := 0) (hi := 63) g118 rfl rfl rfl rfl
        refine gx_ag (v := .inl m31) (cb := fun c => Nat.beq c 0) rfl (fun _ => rfl) g118 rfl rfl k32 (by first | decide | omega) rfl ?_
        obtain ⟨v133, t133, r133, g133, E133, vb133, e133⟩ := hp.2.2.1 t118 n m31 g118 E118 (by first | decide | omega)
        refine gx_call1 rfl rfl g118 rfl rfl r133 rfl ?_
        have f133 : ∀ c i, ¬ (c = 0 ∧ c = 1) → ai_hv t133 c i = ai_hv t118 c i := fun c i _ => e133 c i
        have k34 : ai_hv t133 399 1006 = some (.inl 0) := (f133 399 1006 (by first | decide | omega)).trans k19
        have k35 : ai_hv t133 399 990 = some (.inl m5) := (f133 399 990 (by first | decide | omega)).trans k20
        have k36 : ai_hv t133 399 1002 = some (.inl m7) := (f133 399 1002 (by first | decide | omega)).trans k21
        have k37 : ai_hv t133 399 998 = some (.inl (m14 - v109)) := (f133 399 998 (by first | decide | omega)).trans k118
        have k38 : ai_hv t133 399 1004 = some (.inl m31) := (f133 399 1004 (by first | decide | omega)).trans k32
        refine ex_go (S := (149, l23, [.inl v133, .inl 1004, gx_r 399], t133, n, 0)) rfl (fun _ => rfl) rfl ?_
        refine gx_ap rfl (fun _ => rfl) g133 rfl rfl rfl (show 1004 < 1035 from by omega) rfl (ai_in_h (by first | decide | omega) (by first | decide | omega) (by first | decide | omega)) rfl (fun t139 g139 k139 e139 => ?_)
        have k40 : ai_hv t139 399 1006 = some (.inl 0) := (e139 399 1006 (by first | decide | omega)).trans k34
        have k41 : ai_hv t139 399 990 = some (.inl m5) := (e139 399 990 (by first | decide | omega)).trans k35
        have k42 : ai_hv t139 399 1002 = some (.inl m7) := (e139 399 1002 (by first | decide | omega)).trans k36
        have k43 : ai_hv t139 399 998 = some (.inl (m14 - v109)) := (e139 399 998 (by first | decide | omega)).trans k37
        have E139 := px_E_st E133 e139 (by first | decide | omega) (by first | decide | omega)
        refine gx_incS (i := 3) (a := 1) (x := 1) rfl (fun _ => rfl) l23_3 (by first | decide | omega) rfl (fun l44 hl44 ml44 => ?_)
        have l44_0 : en_ld l44 0 = some (gx_r 383) := ml44 0 _ l23_0 rfl
        have l44_1 : en_ld l44 1 = some (.inl 990) := ml44 1 _ l23_1 rfl
        have l44_4 : en_ld l44 4 = some (.inl v109) := ml44 4 _ l23_4 rfl
        have l44_2 : en_ld l44 2 = some (.inl z22) := ml44 2 _ hl23 rfl
        refine ex_go (S := (4, l44, [], t139, n, 0)) rfl (fun _ => rfl) rfl ?_
        exact ps_c_990_2 hp _ _ t139 (by first | decide | omega) g139 E139 (fun c i h => (e139 c i (by first | decide | omega)).trans ((f133 c i (by first | decide | omega)).trans ((e118 c i (by first | decide | omega)).trans ((e109 c i (by first | decide | omega)).trans ((e104 c i (by first | decide | omega)).trans ((f101 c i (by first | decide | omega)).trans (e0 c i h))))))) l44_0 l44_1 l44_2 hl44
    · refine gx_2f (c := .le) rfl (by first | decide | omega) (by first | decide | omega) hc16 rfl ?_
      refine gx_ld (i := 0) (d := 2) (v := gx_r 383) rfl (fun _ => rfl) l13_0 rfl rfl ?_
      refine gx_ref (c := 399) rfl g109 rfl rfl rfl rfl ?_
      refine gx_ld (i := 1) (d := 0) (v := .inl 990) rfl (fun _ => rfl) l13_1 rfl rfl ?_
      refine ex_go (S := (73, l13, [.inl 7, .inl 990, gx_r 399], t109, n, 0)) rfl (fun _ => rfl) rfl ?_
      refine ex_go (S := (74, l13, [.inl 997, gx_r 399], t109, n, 0)) rfl (fun _ => rfl) rfl ?_
      refine gx_ld (i := 3) (d := 0) (v := .inl 1) rfl (fun _ => rfl) l13_3 rfl rfl ?_
      refine ex_go (S := (76, l13, [.inl 998, gx_r 399], t109, n, 0)) rfl (fun _ => rfl) rfl ?_
      refine gx_ag (v := .inl m14) (cb := fun c => Nat.beq c 0) rfl (fun _ => rfl) g109 rfl rfl k15 (by first | decide | omega) rfl ?_
      refine ex_go (S := (82, l13, [.inl m14], t109, n, 0)) rfl (fun _ => rfl) rfl ?_
      refine gx_sto (i := 4) (d := 0) rfl (fun _ => rfl) rfl rfl (fun l45 hl45 ml45 => ?_)
      have l45_0 : en_ld l45 0 = some (gx_r 383) := ml45 0 _ l13_0 rfl
      have l45_1 : en_ld l45 1 = some (.inl 990) := ml45 1 _ l13_1 rfl
      have l45_2 : en_ld l45 2 = some (.inl z) := ml45 2 _ l13_2 rfl
      have l45_3 : en_ld l45 3 = some (.inl 1) := ml45 3 _ l13_3 rfl
      refine gx_ld (i := 0) (d := 2) (v := gx_r 383) rfl (fun _ => rfl) l45_0 rfl rfl ?_
      refine gx_ref (c := 399) rfl g109 rfl rfl rfl rfl ?_
      refine gx_ld (i := 1) (d := 0) (v := .inl 990) rfl (fun _ => rfl) l45_1 rfl rfl ?_
      refine ex_go (S := (91, l45, [.inl 7, .inl 990, gx_r 399], t109, n, 0)) rfl (fun _ => rfl) rfl ?_
      refine ex_go (S := (92, l45, [.inl 997, gx_r 399], t109, n, 0)) rfl (fun _ => rfl) rfl ?_
      refine gx_ld (i := 3) (d := 0) (v := .inl 1) rfl (fun _ => rfl) l45_3 rfl rfl ?_
      refine ex_go (S := (94, l45, [.inl 998, gx_r 399], t109, n, 0)) rfl (fun _ => rfl) rfl ?_
      refine ex_go (S := (95, l45, [.inl 998, gx_r 399, .inl 998, gx_r 399], t109, n, 0)) rfl (fun _ => rfl) rfl ?_
      refine gx_ag (v := .inl m14) (cb := fun c => Nat.beq c 0) rfl (fun _ => rfl) g109 rfl rfl k15 (by first | decide | omega) rfl ?_
      refine gx_ld (i := 4) (d := 0) (v := .inl m14) rfl (fun _ => rfl) hl45 rfl rfl ?_
      refine gx_isub rfl (by first | decide | omega) (by first | decide | omega) rfl ?_
      refine gx_ap rfl (fun _ => rfl) g109 rfl rfl rfl (show 998 < 1035 from by omega) rfl (ai_in_h (by first | decide | omega) (by first | decide | omega) (by first | decide | omega)) rfl (fun t146 g146 k146 e146 => ?_)
      have k47 : ai_hv t146 399 1006 = some (.inl 0) := (e146 399 1006 (by first | decide | omega)).trans k10
      have k48 : ai_hv t146 399 990 = some (.inl m5) := (e146 399 990 (by first | decide | omega)).trans k11
      have k49 : ai_hv t146 399 1002 = some (.inl m7) := (e146 399 1002 (by first | decide | omega)).trans k12
      have E146 := px_E_bis (b := 22) (y := 8) E109 e146 k15 k146 (by decide) (by first | decide | omega) (by first | decide | omega)
      refine gx_ld (i := 2) (d := 0) (v := .inl z) rfl (fun _ => rfl) l45_2 rfl rfl ?_
      refine gx_ld (i := 4) (d := 0) (v := .inl m14) rfl (fun _ => rfl) hl45 rfl rfl ?_
      refine gx_iaddw rfl rfl (fun z50 z50b => ?_)
      refine gx_sto (i := 2) (d := 0) rfl (fun _ => rfl) rfl rfl (fun l51 hl51 ml51 => ?_)
      have l51_0 : en_ld l51 0 = some (gx_r 383) := ml51 0 _ l45_0 rfl
      have l51_1 : en_ld l51 1 = some (.inl 990) := ml51 1 _ l45_1 rfl
      have l51_3 : en_ld l51 3 = some (.inl 1) := ml51 3 _ l45_3 rfl
      have l51_4 : en_ld l51 4 = some (.inl m14) := ml51 4 _ hl45 rfl
      refine gx_ld (i := 0) (d := 2) (v := gx_r 383) rfl (fun _ => rfl) l51_0 rfl rfl ?_
      refine gx_ref (c := 399) rfl g146 rfl rfl rfl rfl ?_
      refine gx_ld (i := 1) (d := 0) (v := .inl 990) rfl (fun _ => rfl) l51_1 rfl rfl ?_
      refine ex_go (S := (112, l51, [.inl 13, .inl 990, gx_r 399], t146, n, 0)) rfl (fun _ => rfl) rfl ?_
      refine ex_go (S := (113, l51, [.inl 1003, gx_r 399], t146, n, 0)) rfl (fun _ => rfl) rfl ?_
      refine gx_ld (i := 3) (d := 0) (v := .inl 1) rfl (fun _ => rfl) l51_3 rfl rfl ?_
      refine ex_go (S := (115, l51, [.inl 1004, gx_r 399], t146, n, 0)) rfl (fun _ => rfl) rfl ?_
      refine gx_ld (i := 0) (d := 2) (v := gx_r 383) rfl (fun _ => rfl) l51_0 rfl rfl ?_
      refine gx_ref (c := 399) rfl g146 rfl rfl rfl rfl ?_
      refine gx_ld (i := 1) (d := 0) (v := .inl 990) rfl (fun _ => rfl) l51_1 rfl rfl ?_
      refine ex_go (S := (122, l51, [.inl 11, .inl 990, gx_r 399, .inl 1004, gx_r 399], t146, n, 0)) rfl (fun _ => rfl) rfl ?_
      refine ex_go (S := (123, l51, [.inl 1001, gx_r 399, .inl 1004, gx_r 399], t146, n, 0)) rfl (fun _ => rfl) rfl ?_
      refine gx_ld (i := 3) (d := 0) (v := .inl 1) rfl (fun _ => rfl) l51_3 rfl rfl ?_
      refine ex_go (S := (125, l51, [.inl 1002, gx_r 399, .inl 1004, gx_r 399], t146, n, 0)) rfl (fun _ => rfl) rfl ?_
      refine gx_ag (v := .inl m7) (cb := fun c => Nat.beq c 0) rfl (fun _ => rfl) g146 rfl rfl k49 (by first | decide | omega) rfl ?_
      refine ex_go (S := (127, l51, [.inl 1, .inl m7, .inl 1004, gx_r 399], t146, n, 0)) rfl (fun _ => rfl) rfl ?_
      by_cases hc52 : m7 ≠ 1
      · refine gx_2t (c := .ne) rfl (by first | decide | omega) (by first | decide | omega) hc52 rfl ?_
        refine ex_go (S := (149, l51, [.inl 0, .inl 1004, gx_r 399], t146, n, 0)) rfl (fun _ => rfl) rfl ?_
        refine gx_ap rfl (fun _ => rfl) g146 rfl rfl rfl (show 1004 < 1035 from by omega) rfl (ai_in_h (by first | decide | omega) (by first | decide | omega) (by first | decide | omega)) rfl (fun t153 g153 k153 e153 => ?_)
        have k54 : ai_hv t153 399 1006 = some (.inl 0) := (e153 399 1006 (by first | decide | omega)).trans k47
        have k55 : ai_hv t153 399 990 = some (.inl m5) := (e153 399 990 (by first | decide | omega)).trans k48
        have k56 : ai_hv t153 399 1002 = some (.inl m7) := (e153 399 1002 (by first | decide | omega)).trans k49
        have k57 : ai_hv t153 399 998 = some (.inl (m14 - m14)) := (e153 399 998 (by first | decide | omega)).trans k146
        have E153 := px_E_st E146 e153 (by first | decide | omega) (by first | decide | omega)
        refine gx_incS (i := 3) (a := 1) (x := 1) rfl (fun _ => rfl) l51_3 (by first | decide | omega) rfl (fun l58 hl58 ml58 => ?_)
        have l58_0 : en_ld l58 0 = some (gx_r 383) := ml58 0 _ l51_0 rfl
        have l58_1 : en_ld l58 1 = some (.inl 990) := ml58 1 _ l51_1 rfl
        have l58_4 : en_ld l58 4 = some (.inl m14) := ml58 4 _ l51_4 rfl
        have l58_2 : en_ld l58 2 = some (.inl z50) := ml58 2 _ hl51 rfl
        refine ex_go (S := (4, l58, [], t153, n, 0)) rfl (fun _ => rfl) rfl ?_
        exact ps_c_990_2 hp _ _ t153 (by first | decide | omega) g153 E153 (fun c i h => (e153 c i (by first | decide | omega)).trans ((e146 c i (by first | decide | omega)).trans ((e109 c i (by first | decide | omega)).trans ((e104 c i (by first | decide | omega)).trans ((f101 c i (by first | decide | omega)).trans (e0 c i h)))))) l58_0 l58_1 l58_2 hl58
      · refine gx_2f (c := .ne) rfl (by first | decide | omega) (by first | decide | omega) hc52 rfl ?_
        refine gx_ld (i := 0) (d := 2) (v := gx_r 383) rfl (fun _ => rfl) l51_0 rfl rfl ?_
        refine gx_ld (i := 0) (d := 2) (v := gx_r 383) rfl (fun _ => rfl) l51_0 rfl rfl ?_
        refine gx_ref (c := 399) rfl g146 rfl rfl rfl rfl ?_
        refine gx_ld (i := 1) (d := 0) (v := .inl 990) rfl (fun _ => rfl) l51_1 rfl rfl ?_
        refine ex_go (S := (138, l51, [.inl 13, .inl 990, gx_r 399, gx_r 383, .inl 1004, gx_r 399], t146, n, 0)) rfl (fun _ => rfl) rfl ?_
        refine ex_go (S := (139, l51, [.inl 1003, gx_r 399, gx_r 383, .inl 1004, gx_r 399], t146, n, 0)) rfl (fun _ => rfl) rfl ?_
        refine gx_ld (i := 3) (d := 0) (v := .inl 1) rfl (fun _ => rfl) l51_3 rfl rfl ?_
        refine ex_go (S := (141, l51, [.inl 1004, gx_r 399, gx_r 383, .inl 1004, gx_r 399], t146, n, 0)) rfl (fun _ => rfl) rfl ?_
        obtain ⟨m59, k60, m59l, m59h⟩ := gx_in (c := 399) (i := 1004) (lo := 0) (hi := 63) g146 rfl rfl rfl rfl
        refine gx_ag (v := .inl m59) (cb := fun c => Nat.beq c 0) rfl (fun _ => rfl) g146 rfl rfl k60 (by first | decide | omega) rfl ?_
        obtain ⟨v161, t161, r161, g161, E161, vb161, e161⟩ := hp.2.2.1 t146 n m59 g146 E146 (by first | decide | omega)
        refine gx_call1 rfl rfl g146 rfl rfl r161 rfl ?_
        have f161 : ∀ c i, ¬ (c = 0 ∧ c = 1) → ai_hv t161 c i = ai_hv t146 c i := fun c i _ => e161 c i
        have k62 : ai_hv t161 399 1006 = some (.inl 0) := (f161 399 1006 (by first | decide | omega)).trans k47
        have k63 : ai_hv t161 399 990 = some (.inl m5) := (f161 399 990 (by first | decide | omega)).trans k48
        have k64 : ai_hv t161 399 1002 = some (.inl m7) := (f161 399 1002 (by first | decide | omega)).trans k49
        have k65 : ai_hv t161 399 998 = some (.inl (m14 - m14)) := (f161 399 998 (by first | decide | omega)).trans k146
        have k66 : ai_hv t161 399 1004 = some (.inl m59) := (f161 399 1004 (by first | decide | omega)).trans k60
        refine ex_go (S := (149, l51, [.inl v161, .inl 1004, gx_r 399], t161, n, 0)) rfl (fun _ => rfl) rfl ?_
        refine gx_ap rfl (fun _ => rfl) g161 rfl rfl rfl (show 1004 < 1035 from by omega) rfl (ai_in_h (by first | decide | omega) (by first | decide | omega) (by first | decide | omega)) rfl (fun t167 g167 k167 e167 => ?_)
        have k68 : ai_hv t167 399 1006 = some (.inl 0) := (e167 399 1006 (by first | decide | omega)).trans k62
        have k69 : ai_hv t167 399 990 = some (.inl m5) := (e167 399 990 (by first | decide | omega)).trans k63
        have k70 : ai_hv t167 399 1002 = some (.inl m7) := (e167 399 1002 (by first | decide | omega)).trans k64
        have k71 : ai_hv t167 399 998 = some (.inl (m14 - m14)) := (e167 399 998 (by first | decide | omega)).trans k65
        have E167 := px_E_st E161 e167 (by first | decide | omega) (by first | decide | omega)
        refine gx_incS (i := 3) (a := 1) (x := 1) rfl (fun _ => rfl) l51_3 (by first | decide | omega) rfl (fun l72 hl72 ml72 => ?_)
        have l72_0 : en_ld l72 0 = some (gx_r 383) := ml72 0 _ l51_0 rfl
        have l72_1 : en_ld l72 1 = some (.inl 990) := ml72 1 _ l51_1 rfl
        have l72_4 : en_ld l72 4 = some (.inl m14) := ml72 4 _ l51_4 rfl
        have l72_2 : en_ld l72 2 = some (.inl z50) := ml72 2 _ hl51 rfl
        refine ex_go (S := (4, l72, [], t167, n, 0)) rfl (fun _ => rfl) rfl ?_
        exact ps_c_990_2 hp _ _ t167 (by first | decide | omega) g167 E167 (fun c i h => (e167 c i (by first | decide | omega)).trans ((f161 c i (by first | decide | omega)).trans ((e146 c i (by first | decide | omega)).trans ((e109 c i (by first | decide | omega)).trans ((e104 c i (by first | decide | omega)).trans ((f101 c i (by first | decide | omega)).trans (e0 c i h))))))) l72_0 l72_1 l72_2 hl72
set_option maxRecDepth 100000 in
theorem ps_c_990_0 {fn : en_F} (hp : gx_pass fn) {n : Nat} {tb : en_H} (z : Nat) (cl : en_L) (t0 : en_H) (hz : z < 4294967296) (g0 : ai_HG ah_G t0) (E0 : ai_E t0) (e0 : (∀ c i, ¬ ((c = 397 ∧ i ≤ 3) ∨ (c = 398 ∧ i ≤ 1099) ∨ (c = 399 ∧ 945 ≤ i ∧ i ≤ 1034)) → ai_hv t0 c i = ai_hv tb c i)) (h0 : en_ld cl 0 = some (gx_r 383)) (h1 : en_ld cl 1 = some (.inl 990)) (h2 : en_ld cl 2 = some (.inl z)) (h3 : en_ld cl 3 = some (.inl 0)) : en_ex none fn (en_code 116) (fun _ => false) (4, cl, [], t0, n, 0) (fun o => ∃ r, o = .inl r ∧ ∃ v t', r = (some (.inl v), t', n, 0) ∧ v < 4294967296 ∧ ai_HG ah_G t' ∧ ai_E t' ∧ (∀ c i, ¬ ((c = 397 ∧ i ≤ 3) ∨ (c = 398 ∧ i ≤ 1099) ∨ (c = 399 ∧ 945 ≤ i ∧ i ≤ 1034)) → ai_hv t' c i = ai_hv tb c i)) := by
  refine gx_ld (i := 3) (d := 0) (v := .inl 0) rfl (fun _ => rfl) h3 rfl rfl ?_
  refine gx_ld (i := 0) (d := 2) (v := gx_r 383) rfl (fun _ => rfl) h0 rfl rfl ?_
  obtain ⟨v101, t101, r101, g101, E101, vb101, e101⟩ := hp.1 t0 n  g0 E0 
  refine gx_call1 rfl rfl g0 rfl rfl r101 rfl ?_
  have f101 : ∀ c i, ¬ (c = 0 ∧ c = 1) → ai_hv t101 c i = ai_hv t0 c i := fun c i _ => e101 c i
  by_cases hc2 : v101 ≤ 0
  · refine gx_2t (c := .ge) rfl (by first | decide | omega) (by first | decide | omega) hc2 rfl ?_
    refine ex_go (S := (157, cl, [.inl 0], t101, n, 0)) rfl (fun _ => rfl) rfl ?_
    refine gx_sto (i := 3) (d := 0) rfl (fun _ => rfl) rfl rfl (fun l3 hl3 ml3 => ?_)
    have l3_0 : en_ld l3 0 = some (gx_r 383) := ml3 0 _ h0 rfl
    have l3_1 : en_ld l3 1 = some (.inl 990) := ml3 1 _ h1 rfl
    have l3_2 : en_ld l3 2 = some (.inl z) := ml3 2 _ h2 rfl
    exact ps_t_990 hp 6 0 _ _ t101 (by first | decide | omega) (by first | decide | omega) g101 E101 (fun c i h => (f101 c i (by first | decide | omega)).trans (e0 c i h)) l3_0 l3_1 l3_2 hl3
  · refine gx_2f (c := .ge) rfl (by first | decide | omega) (by first | decide | omega) hc2 rfl ?_
    refine gx_ld (i := 0) (d := 2) (v := gx_r 383) rfl (fun _ => rfl) h0 rfl rfl ?_
    refine gx_ref (c := 399) rfl g101 rfl rfl rfl rfl ?_
    refine gx_ld (i := 1) (d := 0) (v := .inl 990) rfl (fun _ => rfl) h1 rfl rfl ?_
    refine ex_go (S := (19, cl, [.inl 15, .inl 990, gx_r 399], t101, n, 0)) rfl (fun _ => rfl) rfl ?_
    refine ex_go (S := (20, cl, [.inl 1005, gx_r 399], t101, n, 0)) rfl (fun _ => rfl) rfl ?_
    refine gx_ld (i := 3) (d := 0) (v := .inl 0) rfl (fun _ => rfl) h3 rfl rfl ?_
    refine ex_go (S := (22, cl, [.inl 1005, gx_r 399], t101, n, 0)) rfl (fun _ => rfl) rfl ?_
    refine ex_go (S := (23, cl, [.inl 0, .inl 1005, gx_r 399], t101, n, 0)) rfl (fun _ => rfl) rfl ?_
    refine gx_ap rfl (fun _ => rfl) g101 rfl rfl rfl (show 1005 < 1035 from by omega) rfl (ai_in_h (by first | decide | omega) (by first | decide | omega) (by first | decide | omega)) rfl (fun t104 g104 k104 e104 => ?_)
    have E104 := px_E_st E101 e104 (by first | decide | omega) (by first | decide | omega)
    refine gx_ld (i := 0) (d := 2) (v := gx_r 383) rfl (fun _ => rfl) h0 rfl rfl ?_
    refine gx_ld (i := 3) (d := 0) (v := .inl 0) rfl (fun _ => rfl) h3 rfl rfl ?_
    refine gx_ld (i := 0) (d := 2) (v := gx_r 383) rfl (fun _ => rfl) h0 rfl rfl ?_
    refine gx_ref (c := 399) rfl g104 rfl rfl rfl rfl ?_
    refine gx_ld (i := 1) (d := 0) (v := .inl 990) rfl (fun _ => rfl) h1 rfl rfl ?_
    refine ex_go (S := (32, cl, [.inl 0, .inl 990, gx_r 399, .inl 0, gx_r 383], t104, n, 0)) rfl (fun _ => rfl) rfl ?_
    refine ex_go (S := (33, cl, [.inl 990, gx_r 399, .inl 0, gx_r 383], t104, n, 0)) rfl (fun _ => rfl) rfl ?_
    obtain ⟨m5, k6, m5b⟩ := gx_any (c := 399) (i := 990) g104 rfl rfl rfl
    refine gx_ag (v := .inl m5) (cb := fun c => Nat.beq c 0) rfl (fun _ => rfl) g104 rfl rfl k6 (by first | decide | omega) rfl ?_
    refine gx_ld (i := 0) (d := 2) (v := gx_r 383) rfl (fun _ => rfl) h0 rfl rfl ?_
    refine gx_ref (c := 399) rfl g104 rfl rfl rfl rfl ?_
    refine gx_ld (i := 1) (d := 0) (v := .inl 990) rfl (fun _ => rfl) h1 rfl rfl ?_
    refine ex_go (S := (41, cl, [.inl 11, .inl 990, gx_r 399, .inl m5, .inl 0, gx_r 383], t104, n, 0)) rfl (fun _ => rfl) rfl ?_
    refine ex_go (S := (42, cl, [.inl 1001, gx_r 399, .inl m5, .inl 0, gx_r 383], t104, n, 0)) rfl (fun _ => rfl) rfl ?_
    refine gx_ld (i := 3) (d := 0) (v := .inl 0) rfl (fun _ => rfl) h3 rfl rfl ?_
    refine ex_go (S := (44, cl, [.inl 1001, gx_r 399, .inl m5, .inl 0, gx_r 383], t104, n, 0)) rfl (fun _ => rfl) rfl ?_
    obtain ⟨m7, k8, m7l, m7h⟩ := gx_in (c := 399) (i := 1001) (lo := 0) (hi := 1) g104 rfl rfl rfl rfl
    refine gx_ag (v := .inl m7) (cb := fun c => Nat.beq c 0) rfl (fun _ => rfl) g104 rfl rfl k8 (by first | decide | omega) rfl ?_
    obtain ⟨v109, t109, r109, g109, E109, vb109, e109⟩ := hp.2.2.2 t104 n 0 m5 m7 g104 E104 (by first | decide | omega) (by first | decide | omega) (by first | decide | omega)
    refine gx_call1 rfl rfl g104 rfl rfl r109 rfl ?_
    have k10 : ai_hv t109 399 1005 = some (.inl 0) := (e109 399 1005 (by first | decide | omega)).trans k104
    have k11 : ai_hv t109 399 990 = some (.inl m5) := (e109 399 990 (by first | decide | omega)).trans k6
    have k12 : ai_hv t109 399 1001 = some (.inl m7) := (e109 399 1001 (by first | decide | omega)).trans k8
    refine gx_sto (i := 4) (d := 0) rfl (fun _ => rfl) rfl rfl (fun l13 hl13 ml13 => ?_)
    have l13_0 : en_ld l13 0 = some (gx_r 383) := ml13 0 _ h0 rfl
    have l13_1 : en_ld l13 1 = some (.inl 990) := ml13 1 _ h1 rfl
    have l13_2 : en_ld l13 2 = some (.inl z) := ml13 2 _ h2 rfl
    have l13_3 : en_ld l13 3 = some (.inl 0) := ml13 3 _ h3 rfl
    refine gx_ld (i := 4) (d := 0) (v := .inl v109) rfl (fun _ => rfl) hl13 rfl rfl ?_
    refine gx_ld (i := 0) (d := 2) (v := gx_r 383) rfl (fun _ => rfl) l13_0 rfl rfl ?_
    refine gx_ref (c := 399) rfl g109 rfl rfl rfl rfl ?_
    refine gx_ld (i := 1) (d := 0) (v := .inl 990) rfl (fun _ => rfl) l13_1 rfl rfl ?_
    refine ex_go (S := (59, l13, [.inl 7, .inl 990, gx_r 399, .inl v109], t109, n, 0)) rfl (fun _ => rfl) rfl ?_
    refine ex_go (S := (60, l13, [.inl 997, gx_r 399, .inl v109], t109, n, 0)) rfl (fun _ => rfl) rfl ?_
    refine gx_ld (i := 3) (d := 0) (v := .inl 0) rfl (fun _ => rfl) l13_3 rfl rfl ?_
    refine ex_go (S := (62, l13, [.inl 997, gx_r 399, .inl v109], t109, n, 0)) rfl (fun _ => rfl) rfl ?_
    obtain ⟨m14, k15, m14l, m14h⟩ := gx_in (c := 399) (i := 997) (lo := 0) (hi := 19998) g109 rfl rfl rfl rfl
    refine gx_ag (v := .inl m14) (cb := fun c => Nat.beq c 0) rfl (fun _ => rfl) g109 rfl rfl k15 (by first | decide | omega) rfl ?_
    by_cases hc16 : v109 ≤ m14
    · refine gx_2t (c := .le) rfl (by first | decide | omega) (by first | decide | omega) hc16 rfl ?_
      refine gx_ld (i := 4) (d := 0) (v := .inl v109) rfl (fun _ => rfl) hl13 rfl rfl ?_
      refine gx_sto (i := 4) (d := 0) rfl (fun _ => rfl) rfl rfl (fun l17 hl17 ml17 => ?_)
      have l17_0 : en_ld l17 0 = some (gx_r 383) := ml17 0 _ l13_0 rfl
      have l17_1 : en_ld l17 1 = some (.inl 990) := ml17 1 _ l13_1 rfl
      have l17_2 : en_ld l17 2 = some (.inl z) := ml17 2 _ l13_2 rfl
      have l17_3 : en_ld l17 3 = some (.inl 0) := ml17 3 _ l13_3 rfl
      refine gx_ld (i := 0) (d := 2) (v := gx_r 383) rfl (fun _ => rfl) l17_0 rfl rfl ?_
      refine gx_ref (c := 399) rfl g109 rfl rfl rfl rfl ?_
      refine gx_ld (i := 1) (d := 0) (v := .inl 990) rfl (fun _ => rfl) l17_1 rfl rfl ?_
      refine ex_go (S := (91, l17, [.inl 7, .inl 990, gx_r 399], t109, n, 0)) rfl (fun _ => rfl) rfl ?_
      refine ex_go (S := (92, l17, [.inl 997, gx_r 399], t109, n, 0)) rfl (fun _ => rfl) rfl ?_
      refine gx_ld (i := 3) (d := 0) (v := .inl 0) rfl (fun _ => rfl) l17_3 rfl rfl ?_
      refine ex_go (S := (94, l17, [.inl 997, gx_r 399], t109, n, 0)) rfl (fun _ => rfl) rfl ?_
      refine ex_go (S := (95, l17, [.inl 997, gx_r 399, .inl 997, gx_r 399], t109, n, 0)) rfl (fun _ => rfl) rfl ?_
      refine gx_ag (v := .inl m14) (cb := fun c => Nat.beq c 0) rfl (fun _ => rfl) g109 rfl rfl k15 (by first | decide | omega) rfl ?_
      refine gx_ld (i := 4) (d := 0) (v := .inl v109) rfl (fun _ => rfl) hl17 rfl rfl ?_
      refine gx_isub rfl (by first | decide | omega) (by first | decide | omega) rfl ?_
      refine gx_ap rfl (fun _ => rfl) g109 rfl rfl rfl (show 997 < 1035 from by omega) rfl (ai_in_h (by first | decide | omega) (by first | decide | omega) (by first | decide | omega)) rfl (fun t118 g118 k118 e118 => ?_)
      have k19 : ai_hv t118 399 1005 = some (.inl 0) := (e118 399 1005 (by first | decide | omega)).trans k10
      have k20 : ai_hv t118 399 990 = some (.inl m5) := (e118 399 990 (by first | decide | omega)).trans k11
      have k21 : ai_hv t118 399 1001 = some (.inl m7) := (e118 399 1001 (by first | decide | omega)).trans k12
      have E118 := px_E_bis (b := 22) (y := 7) E109 e118 k15 k118 (by decide) (by first | decide | omega) (by first | decide | omega)
      refine gx_ld (i := 2) (d := 0) (v := .inl z) rfl (fun _ => rfl) l17_2 rfl rfl ?_
      refine gx_ld (i := 4) (d := 0) (v := .inl v109) rfl (fun _ => rfl) hl17 rfl rfl ?_
      refine gx_iaddw rfl rfl (fun z22 z22b => ?_)
      refine gx_sto (i := 2) (d := 0) rfl (fun _ => rfl) rfl rfl (fun l23 hl23 ml23 => ?_)
      have l23_0 : en_ld l23 0 = some (gx_r 383) := ml23 0 _ l17_0 rfl
      have l23_1 : en_ld l23 1 = some (.inl 990) := ml23 1 _ l17_1 rfl
      have l23_3 : en_ld l23 3 = some (.inl 0) := ml23 3 _ l17_3 rfl
      have l23_4 : en_ld l23 4 = some (.inl v109) := ml23 4 _ hl17 rfl
      refine gx_ld (i := 0) (d := 2) (v := gx_r 383) rfl (fun _ => rfl) l23_0 rfl rfl ?_
      refine gx_ref (c := 399) rfl g118 rfl rfl rfl rfl ?_
      refine gx_ld (i := 1) (d := 0) (v := .inl 990) rfl (fun _ => rfl) l23_1 rfl rfl ?_
      refine ex_go (S := (112, l23, [.inl 13, .inl 990, gx_r 399], t118, n, 0)) rfl (fun _ => rfl) rfl ?_
      refine ex_go (S := (113, l23, [.inl 1003, gx_r 399], t118, n, 0)) rfl (fun _ => rfl) rfl ?_
      refine gx_ld (i := 3) (d := 0) (v := .inl 0) rfl (fun _ => rfl) l23_3 rfl rfl ?_
      refine ex_go (S := (115, l23, [.inl 1003, gx_r 399], t118, n, 0)) rfl (fun _ => rfl) rfl ?_
      refine gx_ld (i := 0) (d := 2) (v := gx_r 383) rfl (fun _ => rfl) l23_0 rfl rfl ?_
      refine gx_ref (c := 399) rfl g118 rfl rfl rfl rfl ?_
      refine gx_ld (i := 1) (d := 0) (v := .inl 990) rfl (fun _ => rfl) l23_1 rfl rfl ?_
      refine ex_go (S := (122, l23, [.inl 11, .inl 990, gx_r 399, .inl 1003, gx_r 399], t118, n, 0)) rfl (fun _ => rfl) rfl ?_
      refine ex_go (S := (123, l23, [.inl 1001, gx_r 399, .inl 1003, gx_r 399], t118, n, 0)) rfl (fun _ => rfl) rfl ?_
      refine gx_ld (i := 3) (d := 0) (v := .inl 0) rfl (fun _ => rfl) l23_3 rfl rfl ?_
      refine ex_go (S := (125, l23, [.inl 1001, gx_r 399, .inl 1003, gx_r 399], t118, n, 0)) rfl (fun _ => rfl) rfl ?_
      refine gx_ag (v := .inl m7) (cb := fun c => Nat.beq c 0) rfl (fun _ => rfl) g118 rfl rfl k21 (by first | decide | omega) rfl ?_
      refine ex_go (S := (127, l23, [.inl 1, .inl m7, .inl 1003, gx_r 399], t118, n, 0)) rfl (fun _ => rfl) rfl ?_
      by_cases hc24 : m7 ≠ 1
      · refine gx_2t (c := .ne) rfl (by first | decide | omega) (by first | decide | omega) hc24 rfl ?_
        refine ex_go (S := (149, l23, [.inl 0, .inl 1003, gx_r 399], t118, n, 0)) rfl (fun _ => rfl) rfl ?_
        refine gx_ap rfl (fun _ => rfl) g118 rfl rfl rfl (show 1003 < 1035 from by omega) rfl (ai_in_h (by first | decide | omega) (by first | decide | omega) (by first | decide | omega)) rfl (fun t125 g125 k125 e125 => ?_)
        have k26 : ai_hv t125 399 1005 = some (.inl 0) := (e125 399 1005 (by first | decide | omega)).trans k19
        have k27 : ai_hv t125 399 990 = some (.inl m5) := (e125 399 990 (by first | decide | omega)).trans k20
        have k28 : ai_hv t125 399 1001 = some (.inl m7) := (e125 399 1001 (by first | decide | omega)).trans k21
        have k29 : ai_hv t125 399 997 = some (.inl (m14 - v109)) := (e125 399 997 (by first | decide | omega)).trans k118
        have E125 := px_E_st E118 e125 (by first | decide | omega) (by first | decide | omega)
        refine gx_incS (i := 3) (a := 0) (x := 1) rfl (fun _ => rfl) l23_3 (by first | decide | omega) rfl (fun l30 hl30 ml30 => ?_)
        have l30_0 : en_ld l30 0 = some (gx_r 383) := ml30 0 _ l23_0 rfl
        have l30_1 : en_ld l30 1 = some (.inl 990) := ml30 1 _ l23_1 rfl
        have l30_4 : en_ld l30 4 = some (.inl v109) := ml30 4 _ l23_4 rfl
        have l30_2 : en_ld l30 2 = some (.inl z22) := ml30 2 _ hl23 rfl
        refine ex_go (S := (4, l30, [], t125, n, 0)) rfl (fun _ => rfl) rfl ?_
        exact ps_c_990_1 hp _ _ t125 (by first | decide | omega) g125 E125 (fun c i h => (e125 c i (by first | decide | omega)).trans ((e118 c i (by first | decide | omega)).trans ((e109 c i (by first | decide | omega)).trans ((e104 c i (by first | decide | omega)).trans ((f101 c i (by first | decide | omega)).trans (e0 c i h)))))) l30_0 l30_1 l30_2 hl30
      · refine gx_2f (c := .ne) rfl (by first | decide | omega) (by first | decide | omega) hc24 rfl ?_
        refine gx_ld (i := 0) (d := 2) (v := gx_r 383) rfl (fun _ => rfl) l23_0 rfl rfl ?_
        refine gx_ld (i := 0) (d := 2) (v := gx_r 383) rfl (fun _ => rfl) l23_0 rfl rfl ?_
        refine gx_ref (c := 399) rfl g118 rfl rfl rfl rfl ?_
        refine gx_ld (i := 1) (d := 0) (v := .inl 990) rfl (fun _ => rfl) l23_1 rfl rfl ?_
        refine ex_go (S := (138, l23, [.inl 13, .inl 990, gx_r 399, gx_r 383, .inl 1003, gx_r 399], t118, n, 0)) rfl (fun _ => rfl) rfl ?_
        refine ex_go (S := (139, l23, [.inl 1003, gx_r 399, gx_r 383, .inl 1003, gx_r 399], t118, n, 0)) rfl (fun _ => rfl) rfl ?_
        refine gx_ld (i := 3) (d := 0) (v := .inl 0) rfl (fun _ => rfl) l23_3 rfl rfl ?_
        refine ex_go (S := (141, l23, [.inl 1003, gx_r 399, gx_r 383, .inl 1003, gx_r 399], t118, n, 0)) rfl (fun _ => rfl) rfl ?_
        obtain ⟨m31, k32, m31l, m31h⟩ := gx_in (c := 399) (i := 1003) (lo := 0) (hi := 63) g118 rfl rfl rfl rfl
        refine gx_ag (v := .inl m31) (cb := fun c => Nat.beq c 0) rfl (fun _ => rfl) g118 rfl rfl k32 (by first | decide | omega) rfl ?_
        obtain ⟨v133, t133, r133, g133, E133, vb133, e133⟩ := hp.2.2.1 t118 n m31 g118 E118 (by first | decide | omega)
        refine gx_call1 rfl rfl g118 rfl rfl r133 rfl ?_
        have f133 : ∀ c i, ¬ (c = 0 ∧ c = 1) → ai_hv t133 c i = ai_hv t118 c i := fun c i _ => e133 c i
        have k34 : ai_hv t133 399 1005 = some (.inl 0) := (f133 399 1005 (by first | decide | omega)).trans k19
        have k35 : ai_hv t133 399 990 = some (.inl m5) := (f133 399 990 (by first | decide | omega)).trans k20
        have k36 : ai_hv t133 399 1001 = some (.inl m7) := (f133 399 1001 (by first | decide | omega)).trans k21
        have k37 : ai_hv t133 399 997 = some (.inl (m14 - v109)) := (f133 399 997 (by first | decide | omega)).trans k118
        have k38 : ai_hv t133 399 1003 = some (.inl m31) := (f133 399 1003 (by first | decide | omega)).trans k32
        refine ex_go (S := (149, l23, [.inl v133, .inl 1003, gx_r 399], t133, n, 0)) rfl (fun _ => rfl) rfl ?_
        refine gx_ap rfl (fun _ => rfl) g133 rfl rfl rfl (show 1003 < 1035 from by omega) rfl (ai_in_h (by first | decide | omega) (by first | decide | omega) (by first | decide | omega)) rfl (fun t139 g139 k139 e139 => ?_)
        have k40 : ai_hv t139 399 1005 = some (.inl 0) := (e139 399 1005 (by first | decide | omega)).trans k34
        have k41 : ai_hv t139 399 990 = some (.inl m5) := (e139 399 990 (by first | decide | omega)).trans k35
        have k42 : ai_hv t139 399 1001 = some (.inl m7) := (e139 399 1001 (by first | decide | omega)).trans k36
        have k43 : ai_hv t139 399 997 = some (.inl (m14 - v109)) := (e139 399 997 (by first | decide | omega)).trans k37
        have E139 := px_E_st E133 e139 (by first | decide | omega) (by first | decide | omega)
        refine gx_incS (i := 3) (a := 0) (x := 1) rfl (fun _ => rfl) l23_3 (by first | decide | omega) rfl (fun l44 hl44 ml44 => ?_)
        have l44_0 : en_ld l44 0 = some (gx_r 383) := ml44 0 _ l23_0 rfl
        have l44_1 : en_ld l44 1 = some (.inl 990) := ml44 1 _ l23_1 rfl
        have l44_4 : en_ld l44 4 = some (.inl v109) := ml44 4 _ l23_4 rfl
        have l44_2 : en_ld l44 2 = some (.inl z22) := ml44 2 _ hl23 rfl
        refine ex_go (S := (4, l44, [], t139, n, 0)) rfl (fun _ => rfl) rfl ?_
        exact ps_c_990_1 hp _ _ t139 (by first | decide | omega) g139 E139 (fun c i h => (e139 c i (by first | decide | omega)).trans ((f133 c i (by first | decide | omega)).trans ((e118 c i (by first | decide | omega)).trans ((e109 c i (by first | decide | omega)).trans ((e104 c i (by first | decide | omega)).trans ((f101 c i (by first | decide | omega)).trans (e0 c i h))))))) l44_0 l44_1 l44_2 hl44
    · refine gx_2f (c := .le) rfl (by first | decide | omega) (by first | decide | omega) hc16 rfl ?_
      refine gx_ld (i := 0) (d := 2) (v := gx_r 383) rfl (fun _ => rfl) l13_0 rfl rfl ?_
      refine gx_ref (c := 399) rfl g109 rfl rfl rfl rfl ?_
      refine gx_ld (i := 1) (d := 0) (v := .inl 990) rfl (fun _ => rfl) l13_1 rfl rfl ?_
      refine ex_go (S := (73, l13, [.inl 7, .inl 990, gx_r 399], t109, n, 0)) rfl (fun _ => rfl) rfl ?_
      refine ex_go (S := (74, l13, [.inl 997, gx_r 399], t109, n, 0)) rfl (fun _ => rfl) rfl ?_
      refine gx_ld (i := 3) (d := 0) (v := .inl 0) rfl (fun _ => rfl) l13_3 rfl rfl ?_
      refine ex_go (S := (76, l13, [.inl 997, gx_r 399], t109, n, 0)) rfl (fun _ => rfl) rfl ?_
      refine gx_ag (v := .inl m14) (cb := fun c => Nat.beq c 0) rfl (fun _ => rfl) g109 rfl rfl k15 (by first | decide | omega) rfl ?_
      refine ex_go (S := (82, l13, [.inl m14], t109, n, 0)) rfl (fun _ => rfl) rfl ?_
      refine gx_sto (i := 4) (d := 0) rfl (fun _ => rfl) rfl rfl (fun l45 hl45 ml45 => ?_)
      have l45_0 : en_ld l45 0 = some (gx_r 383) := ml45 0 _ l13_0 rfl
      have l45_1 : en_ld l45 1 = some (.inl 990) := ml45 1 _ l13_1 rfl
      have l45_2 : en_ld l45 2 = some (.inl z) := ml45 2 _ l13_2 rfl
      have l45_3 : en_ld l45 3 = some (.inl 0) := ml45 3 _ l13_3 rfl
      refine gx_ld (i := 0) (d := 2) (v := gx_r 383) rfl (fun _ => rfl) l45_0 rfl rfl ?_
      refine gx_ref (c := 399) rfl g109 rfl rfl rfl rfl ?_
      refine gx_ld (i := 1) (d := 0) (v := .inl 990) rfl (fun _ => rfl) l45_1 rfl rfl ?_
      refine ex_go (S := (91, l45, [.inl 7, .inl 990, gx_r 399], t109, n, 0)) rfl (fun _ => rfl) rfl ?_
      refine ex_go (S := (92, l45, [.inl 997, gx_r 399], t109, n, 0)) rfl (fun _ => rfl) rfl ?_
      refine gx_ld (i := 3) (d := 0) (v := .inl 0) rfl (fun _ => rfl) l45_3 rfl rfl ?_
      refine ex_go (S := (94, l45, [.inl 997, gx_r 399], t109, n, 0)) rfl (fun _ => rfl) rfl ?_
      refine ex_go (S := (95, l45, [.inl 997, gx_r 399, .inl 997, gx_r 399], t109, n, 0)) rfl (fun _ => rfl) rfl ?_
      refine gx_ag (v := .inl m14) (cb := fun c => Nat.beq c 0) rfl (fun _ => rfl) g109 rfl rfl k15 (by first | decide | omega) rfl ?_
      refine gx_ld (i := 4) (d := 0) (v := .inl m14) rfl (fun _ => rfl) hl45 rfl rfl ?_
      refine gx_isub rfl (by first | decide | omega) (by first | decide | omega) rfl ?_
      refine gx_ap rfl (fun _ => rfl) g109 rfl rfl rfl (show 997 < 1035 from by omega) rfl (ai_in_h (by first | decide | omega) (by first | decide | omega) (by first | decide | omega)) rfl (fun t146 g146 k146 e146 => ?_)
      have k47 : ai_hv t146 399 1005 = some (.inl 0) := (e146 399 1005 (by first | decide | omega)).trans k10
      have k48 : ai_hv t146 399 990 = some (.inl m5) := (e146 399 990 (by first | decide | omega)).trans k11
      have k49 : ai_hv t146 399 1001 = some (.inl m7) := (e146 399 1001 (by first | decide | omega)).trans k12
      have E146 := px_E_bis (b := 22) (y := 7) E109 e146 k15 k146 (by decide) (by first | decide | omega) (by first | decide | omega)
      refine gx_ld (i := 2) (d := 0) (v := .inl z) rfl (fun _ => rfl) l45_2 rfl rfl ?_
      refine gx_ld (i := 4) (d := 0) (v := .inl m14) rfl (fun _ => rfl) hl45 rfl rfl ?_
      refine gx_iaddw rfl rfl (fun z50 z50b => ?_)
      refine gx_sto (i := 2) (d := 0) rfl (fun _ => rfl) rfl rfl (fun l51 hl51 ml51 => ?_)
      have l51_0 : en_ld l51 0 = some (gx_r 383) := ml51 0 _ l45_0 rfl
      have l51_1 : en_ld l51 1 = some (.inl 990) := ml51 1 _ l45_1 rfl
      have l51_3 : en_ld l51 3 = some (.inl 0) := ml51 3 _ l45_3 rfl
      have l51_4 : en_ld l51 4 = some (.inl m14) := ml51 4 _ hl45 rfl
      refine gx_ld (i := 0) (d := 2) (v := gx_r 383) rfl (fun _ => rfl) l51_0 rfl rfl ?_
      refine gx_ref (c := 399) rfl g146 rfl rfl rfl rfl ?_
      refine gx_ld (i := 1) (d := 0) (v := .inl 990) rfl (fun _ => rfl) l51_1 rfl rfl ?_
      refine ex_go (S := (112, l51, [.inl 13, .inl 990, gx_r 399], t146, n, 0)) rfl (fun _ => rfl) rfl ?_
      refine ex_go (S := (113, l51, [.inl 1003, gx_r 399], t146, n, 0)) rfl (fun _ => rfl) rfl ?_
      refine gx_ld (i := 3) (d := 0) (v := .inl 0) rfl (fun _ => rfl) l51_3 rfl rfl ?_
      refine ex_go (S := (115, l51, [.inl 1003, gx_r 399], t146, n, 0)) rfl (fun _ => rfl) rfl ?_
      refine gx_ld (i := 0) (d := 2) (v := gx_r 383) rfl (fun _ => rfl) l51_0 rfl rfl ?_
      refine gx_ref (c := 399) rfl g146 rfl rfl rfl rfl ?_
      refine gx_ld (i := 1) (d := 0) (v := .inl 990) rfl (fun _ => rfl) l51_1 rfl rfl ?_
      refine ex_go (S := (122, l51, [.inl 11, .inl 990, gx_r 399, .inl 1003, gx_r 399], t146, n, 0)) rfl (fun _ => rfl) rfl ?_
      refine ex_go (S := (123, l51, [.inl 1001, gx_r 399, .inl 1003, gx_r 399], t146, n, 0)) rfl (fun _ => rfl) rfl ?_
      refine gx_ld (i := 3) (d := 0) (v := .inl 0) rfl (fun _ => rfl) l51_3 rfl rfl ?_
      refine ex_go (S := (125, l51, [.inl 1001, gx_r 399, .inl 1003, gx_r 399], t146, n, 0)) rfl (fun _ => rfl) rfl ?_
      refine gx_ag (v := .inl m7) (cb := fun c => Nat.beq c 0) rfl (fun _ => rfl) g146 rfl rfl k49 (by first | decide | omega) rfl ?_
      refine ex_go (S := (127, l51, [.inl 1, .inl m7, .inl 1003, gx_r 399], t146, n, 0)) rfl (fun _ => rfl) rfl ?_
      by_cases hc52 : m7 ≠ 1
      · refine gx_2t (c := .ne) rfl (by first | decide | omega) (by first | decide | omega) hc52 rfl ?_
        refine ex_go (S := (149, l51, [.inl 0, .inl 1003, gx_r 399], t146, n, 0)) rfl (fun _ => rfl) rfl ?_
        refine gx_ap rfl (fun _ => rfl) g146 rfl rfl rfl (show 1003 < 1035 from by omega) rfl (ai_in_h (by first | decide | omega) (by first | decide | omega) (by first | decide | omega)) rfl (fun t153 g153 k153 e153 => ?_)
        have k54 : ai_hv t153 399 1005 = some (.inl 0) := (e153 399 1005 (by first | decide | omega)).trans k47
        have k55 : ai_hv t153 399 990 = some (.inl m5) := (e153 399 990 (by first | decide | omega)).trans k48
        have k56 : ai_hv t153 399 1001 = some (.inl m7) := (e153 399 1001 (by first | decide | omega)).trans k49
        have k57 : ai_hv t153 399 997 = some (.inl (m14 - m14)) := (e153 399 997 (by first | decide | omega)).trans k146
        have E153 := px_E_st E146 e153 (by first | decide | omega) (by first | decide | omega)
        refine gx_incS (i := 3) (a := 0) (x := 1) rfl (fun _ => rfl) l51_3 (by first | decide | omega) rfl (fun l58 hl58 ml58 => ?_)
        have l58_0 : en_ld l58 0 = some (gx_r 383) := ml58 0 _ l51_0 rfl
        have l58_1 : en_ld l58 1 = some (.inl 990) := ml58 1 _ l51_1 rfl
        have l58_4 : en_ld l58 4 = some (.inl m14) := ml58 4 _ l51_4 rfl
        have l58_2 : en_ld l58 2 = some (.inl z50) := ml58 2 _ hl51 rfl
        refine ex_go (S := (4, l58, [], t153, n, 0)) rfl (fun _ => rfl) rfl ?_
        exact ps_c_990_1 hp _ _ t153 (by first | decide | omega) g153 E153 (fun c i h => (e153 c i (by first | decide | omega)).trans ((e146 c i (by first | decide | omega)).trans ((e109 c i (by first | decide | omega)).trans ((e104 c i (by first | decide | omega)).trans ((f101 c i (by first | decide | omega)).trans (e0 c i h)))))) l58_0 l58_1 l58_2 hl58
      · refine gx_2f (c := .ne) rfl (by first | decide | omega) (by first | decide | omega) hc52 rfl ?_
        refine gx_ld (i := 0) (d := 2) (v := gx_r 383) rfl (fun _ => rfl) l51_0 rfl rfl ?_
        refine gx_ld (i := 0) (d := 2) (v := gx_r 383) rfl (fun _ => rfl) l51_0 rfl rfl ?_
        refine gx_ref (c := 399) rfl g146 rfl rfl rfl rfl ?_
        refine gx_ld (i := 1) (d := 0) (v := .inl 990) rfl (fun _ => rfl) l51_1 rfl rfl ?_
        refine ex_go (S := (138, l51, [.inl 13, .inl 990, gx_r 399, gx_r 383, .inl 1003, gx_r 399], t146, n, 0)) rfl (fun _ => rfl) rfl ?_
        refine ex_go (S := (139, l51, [.inl 1003, gx_r 399, gx_r 383, .inl 1003, gx_r 399], t146, n, 0)) rfl (fun _ => rfl) rfl ?_
        refine gx_ld (i := 3) (d := 0) (v := .inl 0) rfl (fun _ => rfl) l51_3 rfl rfl ?_
        refine ex_go (S := (141, l51, [.inl 1003, gx_r 399, gx_r 383, .inl 1003, gx_r 399], t146, n, 0)) rfl (fun _ => rfl) rfl ?_
        obtain ⟨m59, k60, m59l, m59h⟩ := gx_in (c := 399) (i := 1003) (lo := 0) (hi := 63) g146 rfl rfl rfl rfl
        refine gx_ag (v := .inl m59) (cb := fun c => Nat.beq c 0) rfl (fun _ => rfl) g146 rfl rfl k60 (by first | decide | omega) rfl ?_
        obtain ⟨v161, t161, r161, g161, E161, vb161, e161⟩ := hp.2.2.1 t146 n m59 g146 E146 (by first | decide | omega)
        refine gx_call1 rfl rfl g146 rfl rfl r161 rfl ?_
        have f161 : ∀ c i, ¬ (c = 0 ∧ c = 1) → ai_hv t161 c i = ai_hv t146 c i := fun c i _ => e161 c i
        have k62 : ai_hv t161 399 1005 = some (.inl 0) := (f161 399 1005 (by first | decide | omega)).trans k47
        have k63 : ai_hv t161 399 990 = some (.inl m5) := (f161 399 990 (by first | decide | omega)).trans k48
        have k64 : ai_hv t161 399 1001 = some (.inl m7) := (f161 399 1001 (by first | decide | omega)).trans k49
        have k65 : ai_hv t161 399 997 = some (.inl (m14 - m14)) := (f161 399 997 (by first | decide | omega)).trans k146
        have k66 : ai_hv t161 399 1003 = some (.inl m59) := (f161 399 1003 (by first | decide | omega)).trans k60
        refine ex_go (S := (149, l51, [.inl v161, .inl 1003, gx_r 399], t161, n, 0)) rfl (fun _ => rfl) rfl ?_
        refine gx_ap rfl (fun _ => rfl) g161 rfl rfl rfl (show 1003 < 1035 from by omega) rfl (ai_in_h (by first | decide | omega) (by first | decide | omega) (by first | decide | omega)) rfl (fun t167 g167 k167 e167 => ?_)
        have k68 : ai_hv t167 399 1005 = some (.inl 0) := (e167 399 1005 (by first | decide | omega)).trans k62
        have k69 : ai_hv t167 399 990 = some (.inl m5) := (e167 399 990 (by first | decide | omega)).trans k63
        have k70 : ai_hv t167 399 1001 = some (.inl m7) := (e167 399 1001 (by first | decide | omega)).trans k64
        have k71 : ai_hv t167 399 997 = some (.inl (m14 - m14)) := (e167 399 997 (by first | decide | omega)).trans k65
        have E167 := px_E_st E161 e167 (by first | decide | omega) (by first | decide | omega)
        refine gx_incS (i := 3) (a := 0) (x := 1) rfl (fun _ => rfl) l51_3 (by first | decide | omega) rfl (fun l72 hl72 ml72 => ?_)
        have l72_0 : en_ld l72 0 = some (gx_r 383) := ml72 0 _ l51_0 rfl
        have l72_1 : en_ld l72 1 = some (.inl 990) := ml72 1 _ l51_1 rfl
        have l72_4 : en_ld l72 4 = some (.inl m14) := ml72 4 _ l51_4 rfl
        have l72_2 : en_ld l72 2 = some (.inl z50) := ml72 2 _ hl51 rfl
        refine ex_go (S := (4, l72, [], t167, n, 0)) rfl (fun _ => rfl) rfl ?_
        exact ps_c_990_1 hp _ _ t167 (by first | decide | omega) g167 E167 (fun c i h => (e167 c i (by first | decide | omega)).trans ((f161 c i (by first | decide | omega)).trans ((e146 c i (by first | decide | omega)).trans ((e109 c i (by first | decide | omega)).trans ((e104 c i (by first | decide | omega)).trans ((f101 c i (by first | decide | omega)).trans (e0 c i h))))))) l72_0 l72_1 l72_2 hl72
theorem pk_passes990 (d n : Nat) {tb : en_H} (hp : gx_pass (en_u d)) (g0 : ai_HG ah_G tb) (hE : ai_E tb) : ∃ r, en_u (d + 1) 116 [gx_r 383, .inl 990] tb n = some r ∧ ∃ v t', r = (some (.inl v), t', n, 0) ∧ v < 4294967296 ∧ ai_HG ah_G t' ∧ ai_E t' ∧ (∀ c i, ¬ ((c = 397 ∧ i ≤ 3) ∨ (c = 398 ∧ i ≤ 1099) ∨ (c = 399 ∧ 945 ≤ i ∧ i ≤ 1034)) → ai_hv t' c i = ai_hv tb c i) := by
  refine en_u_ex rfl ?_
  show en_ex _ _ _ _ (0, [(0, gx_r 383), (1, .inl 990)], [], tb, n, 0) _
  refine ex_go (S := (1, [(0, gx_r 383), (1, .inl 990)], [.inl 0], tb, n, 0)) rfl (fun _ => rfl) rfl ?_
  refine ex_go (S := (2, [(2, .inl 0), (0, gx_r 383), (1, .inl 990)], [], tb, n, 0)) rfl (fun _ => rfl) rfl ?_
  refine ex_go (S := (3, [(2, .inl 0), (0, gx_r 383), (1, .inl 990)], [.inl 0], tb, n, 0)) rfl (fun _ => rfl) rfl ?_
  refine ex_go (S := (4, [(3, .inl 0), (2, .inl 0), (0, gx_r 383), (1, .inl 990)], [], tb, n, 0)) rfl (fun _ => rfl) rfl ?_
  exact ps_c_990_0 hp 0 _ tb (by first | decide | omega) g0 hE (fun c i h => rfl) rfl rfl rfl rfl
end PKC
