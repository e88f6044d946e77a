section PK4
theorem pk_takePart_t {l e : Nat} (hT : ∀ d, px_C (d + l + 3) 288 (e + 1)) (hA : ∀ d, px_C (d + l + 7) 247 (e + 1)) (he : e ≤ 4) (d n : Nat) {t0 : en_H} {a f c nb fa : Nat} (s0 : px_S t0 a f) (kc : ai_hv t0 383 13 = some (.inl c)) (hca : c ≤ a) (hf : f = 0) (hk : (nb = 1 ∧ a ≤ 999) ∨ (nb = 0 ∧ fa < 4 ∧ a ≤ 999) ∨ (nb = 0 ∧ (px_sg t0 a f 40 ∨ px_wd t0 a f 35))) : en_ex none (en_u (d + l + 7)) (en_code 288) (fun _ => false) (101, [(3, .inl fa), (2, .inl nb), (0, gx_r 383), (1, .inl e)], [], t0, n, 0) (fun o => ∃ r, o = .inl r ∧ ∃ t' a' f' c', r = (none, t', n, 0) ∧ px_X t0 a f c t' a' f' c') := by
  have b0 := s0.2.2.2
  have hT7 : ∀ d, px_C (d + l + 7) 288 (e + 1) := fun d => by
    have h9 := hT (d + 4)
    rw [show d + 4 + l + 3 = d + l + 7 by omega] at h9
    exact h9
  refine ex_go (S := (102, [(3, .inl fa), (2, .inl nb), (0, gx_r 383), (1, .inl e)], [gx_r 383], t0, n, 0)) rfl (fun _ => rfl) rfl ?_
  refine gx_get rfl s0.1 rfl s0.2.2.1 rfl ?_
  refine gx_1t (c := .le) rfl (by first | decide | omega) (show f ≤ 0 from by omega) rfl ?_
  refine ex_go (S := (110, [(3, .inl fa), (2, .inl nb), (0, gx_r 383), (1, .inl e)], [gx_r 383], t0, n, 0)) rfl (fun _ => rfl) rfl ?_
  refine ex_go (S := (112, [(3, .inl fa), (2, .inl nb), (0, gx_r 383), (1, .inl e)], [.inl 35, gx_r 383], t0, n, 0)) rfl (fun _ => rfl) rfl ?_
  obtain ⟨_, r101, v101, t101, a101, f101, rfl, s101, e101, q101⟩ := pk_hasWord (d + l + 5) n (s0) (w := 35) (by first | decide | omega)
  have b101 := s101.2.2.2
  refine gx_call1 rfl rfl s0.1 rfl rfl r101 rfl ?_
  have k2 : ai_hv t101 383 13 = some (.inl c) := (e101 383 13 (by first | decide | omega)).trans kc
  by_cases hc3 : v101 = 0
  · refine gx_1t (c := .eq) rfl (by first | decide | omega) hc3 rfl ?_
    refine ex_go (S := (135, [(3, .inl fa), (2, .inl nb), (0, gx_r 383), (1, .inl e)], [gx_r 383], t101, n, 0)) rfl (fun _ => rfl) rfl ?_
    refine ex_go (S := (137, [(3, .inl fa), (2, .inl nb), (0, gx_r 383), (1, .inl e)], [.inl 40, gx_r 383], t101, n, 0)) rfl (fun _ => rfl) rfl ?_
    obtain ⟨_, r104, v104, t104, a104, f104, rfl, s104, e104, q104⟩ := pk_hasSign (d + l + 5) n (s101) (w := 40)
    have b104 := s104.2.2.2
    refine gx_call1 rfl rfl s101.1 rfl rfl r104 rfl ?_
    have k5 : ai_hv t104 383 13 = some (.inl c) := (e104 383 13 (by first | decide | omega)).trans k2
    by_cases hc6 : v104 = 0
    · refine gx_1t (c := .eq) rfl (by first | decide | omega) hc6 rfl ?_
      have hk2 : (nb = 1 ∧ a ≤ 999) ∨ (nb = 0 ∧ fa < 4 ∧ a ≤ 999) := by
        rcases hk with hk | hk | ⟨hk, hk | hk⟩
        · exact Or.inl hk
        · exact Or.inr hk
        · exfalso
          have h3 : ¬ px_sg t0 a f 40 := fun h4 => by
            have h5 : px_sg t101 a101 f101 40 := by rw [show a101 = a by omega, show f101 = f by omega]; exact (px_sg_kept e101).mpr h4
            have h6 := q104.2.mpr h5
            omega
          exact h3 hk
        · exfalso
          have h6 := q101.2.mpr hk
          omega
      rcases hk2 with ⟨h7, h8⟩ | ⟨h7, h9, h8⟩
      · subst h7
        refine ex_go (S := (160, [(3, .inl fa), (2, .inl 1), (0, gx_r 383), (1, .inl e)], [gx_r 383], t104, n, 0)) rfl (fun _ => rfl) rfl ?_
        refine ex_go (S := (161, [(3, .inl fa), (2, .inl 1), (0, gx_r 383), (1, .inl e)], [.inl 1, gx_r 383], t104, n, 0)) rfl (fun _ => rfl) rfl ?_
        refine ex_go (S := (164, [(3, .inl fa), (2, .inl 1), (0, gx_r 383), (1, .inl e)], [gx_r 383], t104, n, 0)) rfl (fun _ => rfl) rfl ?_
        refine ex_go (S := (165, [(3, .inl fa), (2, .inl 1), (0, gx_r 383), (1, .inl e)], [.inl 1, gx_r 383], t104, n, 0)) rfl (fun _ => rfl) rfl ?_
        refine ex_go (S := (169, [(3, .inl fa), (2, .inl 1), (0, gx_r 383), (1, .inl e)], [.inl 1, gx_r 383], t104, n, 0)) rfl (fun _ => rfl) rfl ?_
        refine ex_go (S := (170, [(3, .inl fa), (2, .inl 1), (0, gx_r 383), (1, .inl e)], [.inl 1, .inl 1, gx_r 383], t104, n, 0)) rfl (fun _ => rfl) rfl ?_
        refine ex_go (S := (173, [(3, .inl fa), (2, .inl 1), (0, gx_r 383), (1, .inl e)], [.inl 1, gx_r 383], t104, n, 0)) rfl (fun _ => rfl) rfl ?_
        refine ex_go (S := (174, [(3, .inl fa), (2, .inl 1), (0, gx_r 383), (1, .inl e)], [gx_r 383, .inl 1, gx_r 383], t104, n, 0)) rfl (fun _ => rfl) rfl ?_
        refine gx_ref (c := 387) rfl s104.1 rfl rfl rfl rfl ?_
        refine ex_go (S := (178, [(3, .inl fa), (2, .inl 1), (0, gx_r 383), (1, .inl e)], [gx_r 383, gx_r 387, .inl 1, gx_r 383], t104, n, 0)) rfl (fun _ => rfl) rfl ?_
        refine gx_get rfl s104.1 rfl s104.2.1 rfl ?_
        obtain ⟨m7, k8⟩ := gx_long_387 s104.1 (i := a104) (by first | decide | omega)
        refine gx_ag (v := .inr (.inl m7)) (cb := fun c => Nat.beq c 3) rfl (fun _ => rfl) s104.1 rfl rfl k8 (by first | decide | omega) rfl ?_
        refine ex_go (S := (183, [(3, .inl fa), (2, .inl 1), (0, gx_r 383), (1, .inl e)], [.inl ((lN m7).toInt32.toBitVec.toNat), .inl 1, gx_r 383], t104, n, 0)) rfl (fun _ => rfl) rfl ?_
        refine ex_go (S := (187, [(3, .inl fa), (2, .inl 1), (0, gx_r 383), (1, .inl e)], [.inl ((lN m7).toInt32.toBitVec.toNat), .inl 1, gx_r 383], t104, n, 0)) rfl (fun _ => rfl) rfl ?_
        have z9b : (lN m7).toInt32.toBitVec.toNat < 4294967296 := (lN m7).toInt32.toBitVec.isLt
        generalize (lN m7).toInt32.toBitVec.toNat = z9 at z9b ⊢
        obtain ⟨_, r110, t110, rfl, s110, e110, k110, ko110, kz110⟩ := pk_emit (d + l + 6) n (s104) (o := 1) (z := z9) (by first | decide | omega) (by first | decide | omega) (by first | decide | omega) k5
        have b110 := s110.2.2.2
        refine gx_call0 rfl rfl s104.1 rfl rfl r110 rfl ?_
        refine ex_go (S := (191, [(3, .inl fa), (2, .inl 1), (0, gx_r 383), (1, .inl e)], [gx_r 383], t110, n, 0)) rfl (fun _ => rfl) rfl ?_
        refine ex_go (S := (192, [(3, .inl fa), (2, .inl 1), (0, gx_r 383), (1, .inl e)], [gx_r 383, gx_r 383], t110, n, 0)) rfl (fun _ => rfl) rfl ?_
        refine gx_get rfl s110.1 rfl s110.2.1 rfl ?_
        refine ex_go (S := (196, [(3, .inl fa), (2, .inl 1), (0, gx_r 383), (1, .inl e)], [.inl 1, .inl a104, gx_r 383], t110, n, 0)) rfl (fun _ => rfl) rfl ?_
        refine ex_iadd rfl (by first | decide | omega) rfl ?_
        refine gx_put rfl s110.1 rfl rfl (ai_in_h (by first | decide | omega) (by first | decide | omega) (by first | decide | omega)) rfl (fun t111 g111 k111 e111 => ?_)
        have k12 : ai_hv t111 383 13 = some (.inl (c + 1)) := (e111 383 13 (by first | decide | omega)).trans k110
        have s111 : px_S t111 (a104 + 1) f104 := ⟨g111, k111, (e111 383 8 (by first | decide | omega)).trans s110.2.2.1, by omega, s110.2.2.2.2⟩
        refine ex_ret (r := (none, t111, n, 0)) rfl (fun _ => rfl) ?_
        exact ⟨_, rfl, t111, a104 + 1, f104, c + 1, rfl, px_X_one hf (by first | decide | omega) (fun c i h => (e104 c i (by first | decide | omega)).trans (e101 c i (by first | decide | omega))) e110 (fun c i h => e111 c i (by first | decide | omega)) s111 k110 ko110 kz110 (by first | decide | omega)⟩
      · subst h7
        refine ex_go (S := (160, [(3, .inl fa), (2, .inl 0), (0, gx_r 383), (1, .inl e)], [gx_r 383], t104, n, 0)) rfl (fun _ => rfl) rfl ?_
        refine ex_go (S := (161, [(3, .inl fa), (2, .inl 0), (0, gx_r 383), (1, .inl e)], [.inl 0, gx_r 383], t104, n, 0)) rfl (fun _ => rfl) rfl ?_
        refine ex_go (S := (168, [(3, .inl fa), (2, .inl 0), (0, gx_r 383), (1, .inl e)], [gx_r 383], t104, n, 0)) rfl (fun _ => rfl) rfl ?_
        refine ex_go (S := (169, [(3, .inl fa), (2, .inl 0), (0, gx_r 383), (1, .inl e)], [.inl 2, gx_r 383], t104, n, 0)) rfl (fun _ => rfl) rfl ?_
        refine ex_go (S := (170, [(3, .inl fa), (2, .inl 0), (0, gx_r 383), (1, .inl e)], [.inl 0, .inl 2, gx_r 383], t104, n, 0)) rfl (fun _ => rfl) rfl ?_
        refine ex_go (S := (186, [(3, .inl fa), (2, .inl 0), (0, gx_r 383), (1, .inl e)], [.inl 2, gx_r 383], t104, n, 0)) rfl (fun _ => rfl) rfl ?_
        refine ex_go (S := (187, [(3, .inl fa), (2, .inl 0), (0, gx_r 383), (1, .inl e)], [.inl fa, .inl 2, gx_r 383], t104, n, 0)) rfl (fun _ => rfl) rfl ?_
        obtain ⟨_, r113, t113, rfl, s113, e113, k113, ko113, kz113⟩ := pk_emit (d + l + 6) n (s104) (o := 2) (z := fa) (by first | decide | omega) (by first | decide | omega) (by first | decide | omega) k5
        have b113 := s113.2.2.2
        refine gx_call0 rfl rfl s104.1 rfl rfl r113 rfl ?_
        refine ex_go (S := (191, [(3, .inl fa), (2, .inl 0), (0, gx_r 383), (1, .inl e)], [gx_r 383], t113, n, 0)) rfl (fun _ => rfl) rfl ?_
        refine ex_go (S := (192, [(3, .inl fa), (2, .inl 0), (0, gx_r 383), (1, .inl e)], [gx_r 383, gx_r 383], t113, n, 0)) rfl (fun _ => rfl) rfl ?_
        refine gx_get rfl s113.1 rfl s113.2.1 rfl ?_
        refine ex_go (S := (196, [(3, .inl fa), (2, .inl 0), (0, gx_r 383), (1, .inl e)], [.inl 1, .inl a104, gx_r 383], t113, n, 0)) rfl (fun _ => rfl) rfl ?_
        refine ex_iadd rfl (by first | decide | omega) rfl ?_
        refine gx_put rfl s113.1 rfl rfl (ai_in_h (by first | decide | omega) (by first | decide | omega) (by first | decide | omega)) rfl (fun t114 g114 k114 e114 => ?_)
        have k15 : ai_hv t114 383 13 = some (.inl (c + 1)) := (e114 383 13 (by first | decide | omega)).trans k113
        have s114 : px_S t114 (a104 + 1) f104 := ⟨g114, k114, (e114 383 8 (by first | decide | omega)).trans s113.2.2.1, by omega, s113.2.2.2.2⟩
        refine ex_ret (r := (none, t114, n, 0)) rfl (fun _ => rfl) ?_
        exact ⟨_, rfl, t114, a104 + 1, f104, c + 1, rfl, px_X_one hf (by first | decide | omega) (fun c i h => (e104 c i (by first | decide | omega)).trans (e101 c i (by first | decide | omega))) e113 (fun c i h => e114 c i (by first | decide | omega)) s114 k113 ko113 kz113 (by first | decide | omega)⟩
    · refine gx_1f (c := .eq) rfl (by first | decide | omega) hc6 rfl ?_
      refine ex_go (S := (144, [(3, .inl fa), (2, .inl nb), (0, gx_r 383), (1, .inl e)], [gx_r 383], t104, n, 0)) rfl (fun _ => rfl) rfl ?_
      refine ex_go (S := (145, [(3, .inl fa), (2, .inl nb), (0, gx_r 383), (1, .inl e)], [.inl e, gx_r 383], t104, n, 0)) rfl (fun _ => rfl) rfl ?_
      refine ex_go (S := (146, [(3, .inl fa), (2, .inl nb), (0, gx_r 383), (1, .inl e)], [.inl 1, .inl e, gx_r 383], t104, n, 0)) rfl (fun _ => rfl) rfl ?_
      refine ex_iadd rfl (by first | decide | omega) rfl ?_
      obtain ⟨_, r116, t116, a116, f116, c116, rfl, x116⟩ := hA d n _ _ _ _ s104 k5 (by first | decide | omega)
      have s116 := x116.1
      have e116 := x116.2.1
      have k116 := x116.2.2.1
      have q116 := x116.2.2.2.1
      have b116 := s116.2.2.2
      refine gx_call0 rfl rfl s104.1 rfl rfl r116 rfl ?_
      refine ex_go (S := (151, [(3, .inl fa), (2, .inl nb), (0, gx_r 383), (1, .inl e)], [gx_r 383], t116, n, 0)) rfl (fun _ => rfl) rfl ?_
      refine ex_go (S := (153, [(3, .inl fa), (2, .inl nb), (0, gx_r 383), (1, .inl e)], [.inl 41, gx_r 383], t116, n, 0)) rfl (fun _ => rfl) rfl ?_
      obtain ⟨_, r117, t117, a117, f117, rfl, s117, e117, q117⟩ := pk_takeSign (d + l + 5) n (s116) (w := 41)
      have b117 := s117.2.2.2
      refine gx_call0 rfl rfl s116.1 rfl rfl r117 rfl ?_
      have k18 : ai_hv t117 383 13 = some (.inl c116) := (e117 383 13 (by first | decide | omega)).trans k116
      refine ex_go (S := (200, [(3, .inl fa), (2, .inl nb), (0, gx_r 383), (1, .inl e)], [], t117, n, 0)) rfl (fun _ => rfl) rfl ?_
      refine ex_ret (r := (none, t117, n, 0)) rfl (fun _ => rfl) ?_
      exact ⟨_, rfl, t117, a117, f117, c116, rfl, px_X_in hf (by first | decide | omega) (fun c i h => (e104 c i (by first | decide | omega)).trans (e101 c i (by first | decide | omega))) x116 (fun c i h => e117 c i (by first | decide | omega)) s117 (by first | decide | omega) (by first | decide | omega)⟩
  · refine gx_1f (c := .eq) rfl (by first | decide | omega) hc3 rfl ?_
    refine ex_go (S := (119, [(3, .inl fa), (2, .inl nb), (0, gx_r 383), (1, .inl e)], [gx_r 383], t101, n, 0)) rfl (fun _ => rfl) rfl ?_
    refine ex_go (S := (120, [(3, .inl fa), (2, .inl nb), (0, gx_r 383), (1, .inl e)], [.inl e, gx_r 383], t101, n, 0)) rfl (fun _ => rfl) rfl ?_
    refine ex_go (S := (121, [(3, .inl fa), (2, .inl nb), (0, gx_r 383), (1, .inl e)], [.inl 1, .inl e, gx_r 383], t101, n, 0)) rfl (fun _ => rfl) rfl ?_
    refine ex_iadd rfl (by first | decide | omega) rfl ?_
    obtain ⟨_, r119, t119, a119, f119, c119, rfl, x119⟩ := hT7 d n _ _ _ _ s101 k2 (by first | decide | omega)
    have s119 := x119.1
    have e119 := x119.2.1
    have k119 := x119.2.2.1
    have q119 := x119.2.2.2.1
    have b119 := s119.2.2.2
    refine gx_call0 rfl rfl s101.1 rfl rfl r119 rfl ?_
    refine ex_go (S := (126, [(3, .inl fa), (2, .inl nb), (0, gx_r 383), (1, .inl e)], [gx_r 383], t119, n, 0)) rfl (fun _ => rfl) rfl ?_
    refine ex_go (S := (127, [(3, .inl fa), (2, .inl nb), (0, gx_r 383), (1, .inl e)], [.inl 3, gx_r 383], t119, n, 0)) rfl (fun _ => rfl) rfl ?_
    refine ex_go (S := (128, [(3, .inl fa), (2, .inl nb), (0, gx_r 383), (1, .inl e)], [.inl 0, .inl 3, gx_r 383], t119, n, 0)) rfl (fun _ => rfl) rfl ?_
    obtain ⟨_, r120, t120, rfl, s120, e120, k120, ko120, kz120⟩ := pk_emit (d + l + 6) n (s119) (o := 3) (z := 0) (by first | decide | omega) (by first | decide | omega) (by first | decide | omega) k119
    have b120 := s120.2.2.2
    refine gx_call0 rfl rfl s119.1 rfl rfl r120 rfl ?_
    refine ex_go (S := (200, [(3, .inl fa), (2, .inl nb), (0, gx_r 383), (1, .inl e)], [], t120, n, 0)) rfl (fun _ => rfl) rfl ?_
    refine ex_ret (r := (none, t120, n, 0)) rfl (fun _ => rfl) ?_
    exact ⟨_, rfl, t120, a119, f119, c119 + 1, rfl, px_X_not hf (by first | decide | omega) (fun c i h => e101 c i (by first | decide | omega)) x119 s120 e120 k120 ko120 kz120⟩
theorem pk_takePart5 (d : Nat) : px_C (d + 3) 288 5 := by
  intro n t0 a f c s0 kc hca
  have b0 := s0.2.2.2
  refine en_u_ex (d := d + 2) rfl ?_
  show en_ex _ _ _ _ (0, [(0, gx_r 383), (1, .inl 5)], [], t0, n, 0) _
  refine ex_go (S := (1, [(0, gx_r 383), (1, .inl 5)], [gx_r 383], t0, n, 0)) rfl (fun _ => rfl) rfl ?_
  refine gx_get rfl s0.1 rfl s0.2.2.1 rfl ?_
  by_cases hc1 : f ≤ 0
  · refine gx_1t (c := .le) rfl (by first | decide | omega) hc1 rfl ?_
    refine ex_go (S := (9, [(0, gx_r 383), (1, .inl 5)], [gx_r 383], t0, n, 0)) rfl (fun _ => rfl) rfl ?_
    refine gx_ref (c := 385) rfl s0.1 rfl rfl rfl rfl ?_
    refine ex_go (S := (13, [(0, gx_r 383), (1, .inl 5)], [gx_r 383, gx_r 385], t0, n, 0)) rfl (fun _ => rfl) rfl ?_
    refine gx_get rfl s0.1 rfl s0.2.1 rfl ?_
    obtain ⟨m2, k3, m2b⟩ := gx_sort s0.1 (i := a) (by first | decide | omega)
    refine gx_ag (v := .inl m2) (cb := fun c => Nat.beq c 0) rfl (fun _ => rfl) s0.1 rfl rfl k3 (by first | decide | omega) rfl ?_
    refine ex_go (S := (18, [(0, gx_r 383), (1, .inl 5)], [.inl 2, .inl m2], t0, n, 0)) rfl (fun _ => rfl) rfl ?_
    by_cases hc4 : m2 ≠ 2
    · refine gx_2t (c := .ne) rfl (by first | decide | omega) (by first | decide | omega) hc4 rfl ?_
      refine ex_go (S := (26, [(0, gx_r 383), (1, .inl 5)], [.inl 0], t0, n, 0)) rfl (fun _ => rfl) rfl ?_
      refine ex_go (S := (27, [(2, .inl 0), (0, gx_r 383), (1, .inl 5)], [], t0, n, 0)) rfl (fun _ => rfl) rfl ?_
      refine ex_go (S := (28, [(2, .inl 0), (0, gx_r 383), (1, .inl 5)], [gx_r 383], t0, n, 0)) rfl (fun _ => rfl) rfl ?_
      refine ex_go (S := (30, [(2, .inl 0), (0, gx_r 383), (1, .inl 5)], [.inl 38, gx_r 383], t0, n, 0)) rfl (fun _ => rfl) rfl ?_
      refine ex_go (S := (31, [(2, .inl 0), (0, gx_r 383), (1, .inl 5)], [.inl 4, .inl 38, gx_r 383], t0, n, 0)) rfl (fun _ => rfl) rfl ?_
      obtain ⟨_, r7, b5, rfl, q6⟩ := pk_wordHere (d) n (s0) (w := 38) (m := 4) (by first | decide | omega)
      refine gx_call1 rfl rfl s0.1 rfl rfl r7 rfl ?_
      refine ex_go (S := (35, [(3, .inl b5), (2, .inl 0), (0, gx_r 383), (1, .inl 5)], [], t0, n, 0)) rfl (fun _ => rfl) rfl ?_
      refine ex_go (S := (36, [(3, .inl b5), (2, .inl 0), (0, gx_r 383), (1, .inl 5)], [.inl b5], t0, n, 0)) rfl (fun _ => rfl) rfl ?_
      rcases q6 with hn8 | hn8
      · have := hn8
        refine gx_1f (c := .lt) rfl (by first | decide | omega) (show ¬ (b5 < 0) from by omega) rfl ?_
        refine ex_go (S := (40, [(3, .inl b5), (2, .inl 0), (0, gx_r 383), (1, .inl 5)], [gx_r 383], t0, n, 0)) rfl (fun _ => rfl) rfl ?_
        obtain ⟨m9, k10, m9l, m9h⟩ := gx_in (c := 383) (i := 21) (lo := 0) (hi := 8) s0.1 rfl rfl rfl rfl
        refine gx_get rfl s0.1 rfl k10 rfl ?_
        refine ex_go (S := (44, [(3, .inl b5), (2, .inl 0), (0, gx_r 383), (1, .inl 5)], [.inl b5, .inl m9], t0, n, 0)) rfl (fun _ => rfl) rfl ?_
        refine gx_ishrw rfl rfl (fun z11 z11b => ?_)
        refine ex_go (S := (46, [(3, .inl b5), (2, .inl 0), (0, gx_r 383), (1, .inl 5)], [.inl 1, .inl z11], t0, n, 0)) rfl (fun _ => rfl) rfl ?_
        refine gx_iand1 rfl (by first | decide | omega) rfl (fun z12 z12b => ?_)
        refine ex_go (S := (48, [(3, .inl b5), (2, .inl 0), (0, gx_r 383), (1, .inl 5)], [.inl 1, .inl z12], t0, n, 0)) rfl (fun _ => rfl) rfl ?_
        by_cases hc13 : z12 ≠ 1
        · refine gx_2t (c := .ne) rfl (by first | decide | omega) (by first | decide | omega) hc13 rfl ?_
          refine ex_go (S := (56, [(3, .inl b5), (2, .inl 0), (0, gx_r 383), (1, .inl 5)], [.inl 4294967295], t0, n, 0)) rfl (fun _ => rfl) rfl ?_
          refine ex_go (S := (57, [(3, .inl 4294967295), (2, .inl 0), (0, gx_r 383), (1, .inl 5)], [], t0, n, 0)) rfl (fun _ => rfl) rfl ?_
          refine ex_go (S := (58, [(3, .inl 4294967295), (2, .inl 0), (0, gx_r 383), (1, .inl 5)], [.inl 4294967295], t0, n, 0)) rfl (fun _ => rfl) rfl ?_
          refine ex_go (S := (61, [(3, .inl 4294967295), (2, .inl 0), (0, gx_r 383), (1, .inl 5)], [], t0, n, 0)) rfl (fun _ => rfl) rfl ?_
          refine ex_go (S := (62, [(3, .inl 4294967295), (2, .inl 0), (0, gx_r 383), (1, .inl 5)], [.inl 0], t0, n, 0)) rfl (fun _ => rfl) rfl ?_
          refine ex_go (S := (65, [(3, .inl 4294967295), (2, .inl 0), (0, gx_r 383), (1, .inl 5)], [], t0, n, 0)) rfl (fun _ => rfl) rfl ?_
          refine ex_go (S := (66, [(3, .inl 4294967295), (2, .inl 0), (0, gx_r 383), (1, .inl 5)], [gx_r 383], t0, n, 0)) rfl (fun _ => rfl) rfl ?_
          refine ex_go (S := (68, [(3, .inl 4294967295), (2, .inl 0), (0, gx_r 383), (1, .inl 5)], [.inl 40, gx_r 383], t0, n, 0)) rfl (fun _ => rfl) rfl ?_
          obtain ⟨_, r16, b14, rfl, q15⟩ := pk_isSign (d + 1) n (s0) (w := 40)
          refine gx_call1 rfl rfl s0.1 rfl rfl r16 rfl ?_
          by_cases hc17 : b14 ≠ 0
          · refine gx_1t (c := .ne) rfl (by first | decide | omega) hc17 rfl ?_
            refine ex_go (S := (92, [(3, .inl 4294967295), (2, .inl 0), (0, gx_r 383), (1, .inl 5)], [.inl 5], t0, n, 0)) rfl (fun _ => rfl) rfl ?_
            refine ex_go (S := (93, [(3, .inl 4294967295), (2, .inl 0), (0, gx_r 383), (1, .inl 5)], [.inl 5, .inl 5], t0, n, 0)) rfl (fun _ => rfl) rfl ?_
            refine ex_go (S := (96, [(3, .inl 4294967295), (2, .inl 0), (0, gx_r 383), (1, .inl 5)], [], t0, n, 0)) rfl (fun _ => rfl) rfl ?_
            refine ex_go (S := (97, [(3, .inl 4294967295), (2, .inl 0), (0, gx_r 383), (1, .inl 5)], [gx_r 383], t0, n, 0)) rfl (fun _ => rfl) rfl ?_
            refine ex_go (S := (98, [(3, .inl 4294967295), (2, .inl 0), (0, gx_r 383), (1, .inl 5)], [.inl 5, gx_r 383], t0, n, 0)) rfl (fun _ => rfl) rfl ?_
            obtain ⟨_, r118, t118, a118, f118, rfl, s118, e118, q118⟩ := pk_wrong (d + 1) n (s0) (w := 5) (by first | decide | omega)
            have b118 := s118.2.2.2
            refine gx_call0 rfl rfl s0.1 rfl rfl r118 rfl ?_
            have k19 : ai_hv t118 383 13 = some (.inl c) := (e118 383 13 (by first | decide | omega)).trans kc
            have k20 : ai_hv t118 385 a = some (.inl m2) := (e118 385 a (by first | decide | omega)).trans k3
            have k21 : ai_hv t118 383 21 = some (.inl m9) := (e118 383 21 (by first | decide | omega)).trans k10
            refine ex_go (S := (102, [(3, .inl 4294967295), (2, .inl 0), (0, gx_r 383), (1, .inl 5)], [gx_r 383], t118, n, 0)) rfl (fun _ => rfl) rfl ?_
            refine gx_get rfl s118.1 rfl s118.2.2.1 rfl ?_
            refine gx_1f (c := .le) rfl (by first | decide | omega) (show ¬ (f118 ≤ 0) from by omega) rfl ?_
            refine ex_ret (r := (none, t118, n, 0)) rfl (fun _ => rfl) ?_
            exact ⟨_, rfl, t118, a118, f118, c, rfl, px_X_fault kc (fun c i h => e118 c i (by first | decide | omega)) s118 (by first | decide | omega) (by first | decide | omega)⟩
          · refine gx_1f (c := .ne) rfl (by first | decide | omega) hc17 rfl ?_
            refine ex_go (S := (75, [(3, .inl 4294967295), (2, .inl 0), (0, gx_r 383), (1, .inl 5)], [gx_r 383], t0, n, 0)) rfl (fun _ => rfl) rfl ?_
            refine ex_go (S := (77, [(3, .inl 4294967295), (2, .inl 0), (0, gx_r 383), (1, .inl 5)], [.inl 35, gx_r 383], t0, n, 0)) rfl (fun _ => rfl) rfl ?_
            obtain ⟨_, r24, b22, rfl, q23⟩ := pk_isWord (d + 1) n (s0) (w := 35) (by first | decide | omega)
            refine gx_call1 rfl rfl s0.1 rfl rfl r24 rfl ?_
            by_cases hc25 : b22 ≠ 0
            · refine gx_1t (c := .ne) rfl (by first | decide | omega) hc25 rfl ?_
              refine ex_go (S := (92, [(3, .inl 4294967295), (2, .inl 0), (0, gx_r 383), (1, .inl 5)], [.inl 5], t0, n, 0)) rfl (fun _ => rfl) rfl ?_
              refine ex_go (S := (93, [(3, .inl 4294967295), (2, .inl 0), (0, gx_r 383), (1, .inl 5)], [.inl 5, .inl 5], t0, n, 0)) rfl (fun _ => rfl) rfl ?_
              refine ex_go (S := (96, [(3, .inl 4294967295), (2, .inl 0), (0, gx_r 383), (1, .inl 5)], [], t0, n, 0)) rfl (fun _ => rfl) rfl ?_
              refine ex_go (S := (97, [(3, .inl 4294967295), (2, .inl 0), (0, gx_r 383), (1, .inl 5)], [gx_r 383], t0, n, 0)) rfl (fun _ => rfl) rfl ?_
              refine ex_go (S := (98, [(3, .inl 4294967295), (2, .inl 0), (0, gx_r 383), (1, .inl 5)], [.inl 5, gx_r 383], t0, n, 0)) rfl (fun _ => rfl) rfl ?_
              obtain ⟨_, r126, t126, a126, f126, rfl, s126, e126, q126⟩ := pk_wrong (d + 1) n (s0) (w := 5) (by first | decide | omega)
              have b126 := s126.2.2.2
              refine gx_call0 rfl rfl s0.1 rfl rfl r126 rfl ?_
              have k27 : ai_hv t126 383 13 = some (.inl c) := (e126 383 13 (by first | decide | omega)).trans kc
              have k28 : ai_hv t126 385 a = some (.inl m2) := (e126 385 a (by first | decide | omega)).trans k3
              have k29 : ai_hv t126 383 21 = some (.inl m9) := (e126 383 21 (by first | decide | omega)).trans k10
              refine ex_go (S := (102, [(3, .inl 4294967295), (2, .inl 0), (0, gx_r 383), (1, .inl 5)], [gx_r 383], t126, n, 0)) rfl (fun _ => rfl) rfl ?_
              refine gx_get rfl s126.1 rfl s126.2.2.1 rfl ?_
              refine gx_1f (c := .le) rfl (by first | decide | omega) (show ¬ (f126 ≤ 0) from by omega) rfl ?_
              refine ex_ret (r := (none, t126, n, 0)) rfl (fun _ => rfl) ?_
              exact ⟨_, rfl, t126, a126, f126, c, rfl, px_X_fault kc (fun c i h => e126 c i (by first | decide | omega)) s126 (by first | decide | omega) (by first | decide | omega)⟩
            · refine gx_1f (c := .ne) rfl (by first | decide | omega) hc25 rfl ?_
              refine ex_go (S := (84, [(3, .inl 4294967295), (2, .inl 0), (0, gx_r 383), (1, .inl 5)], [gx_r 383], t0, n, 0)) rfl (fun _ => rfl) rfl ?_
              refine ex_go (S := (85, [(3, .inl 4294967295), (2, .inl 0), (0, gx_r 383), (1, .inl 5)], [.inl 1, gx_r 383], t0, n, 0)) rfl (fun _ => rfl) rfl ?_
              obtain ⟨_, r130, t130, a130, f130, rfl, s130, e130, q130⟩ := pk_wrong (d + 1) n (s0) (w := 1) (by first | decide | omega)
              have b130 := s130.2.2.2
              refine gx_call0 rfl rfl s0.1 rfl rfl r130 rfl ?_
              have k31 : ai_hv t130 383 13 = some (.inl c) := (e130 383 13 (by first | decide | omega)).trans kc
              have k32 : ai_hv t130 385 a = some (.inl m2) := (e130 385 a (by first | decide | omega)).trans k3
              have k33 : ai_hv t130 383 21 = some (.inl m9) := (e130 383 21 (by first | decide | omega)).trans k10
              refine ex_go (S := (101, [(3, .inl 4294967295), (2, .inl 0), (0, gx_r 383), (1, .inl 5)], [], t130, n, 0)) rfl (fun _ => rfl) rfl ?_
              refine ex_go (S := (102, [(3, .inl 4294967295), (2, .inl 0), (0, gx_r 383), (1, .inl 5)], [gx_r 383], t130, n, 0)) rfl (fun _ => rfl) rfl ?_
              refine gx_get rfl s130.1 rfl s130.2.2.1 rfl ?_
              refine gx_1f (c := .le) rfl (by first | decide | omega) (show ¬ (f130 ≤ 0) from by omega) rfl ?_
              refine ex_ret (r := (none, t130, n, 0)) rfl (fun _ => rfl) ?_
              exact ⟨_, rfl, t130, a130, f130, c, rfl, px_X_fault kc (fun c i h => e130 c i (by first | decide | omega)) s130 (by first | decide | omega) (by first | decide | omega)⟩
        · refine gx_2f (c := .ne) rfl (by first | decide | omega) (by first | decide | omega) hc13 rfl ?_
          refine ex_go (S := (52, [(3, .inl b5), (2, .inl 0), (0, gx_r 383), (1, .inl 5)], [.inl b5], t0, n, 0)) rfl (fun _ => rfl) rfl ?_
          refine ex_go (S := (56, [(3, .inl b5), (2, .inl 0), (0, gx_r 383), (1, .inl 5)], [.inl b5], t0, n, 0)) rfl (fun _ => rfl) rfl ?_
          refine ex_go (S := (57, [(3, .inl b5), (2, .inl 0), (0, gx_r 383), (1, .inl 5)], [], t0, n, 0)) rfl (fun _ => rfl) rfl ?_
          refine ex_go (S := (58, [(3, .inl b5), (2, .inl 0), (0, gx_r 383), (1, .inl 5)], [.inl b5], t0, n, 0)) rfl (fun _ => rfl) rfl ?_
          by_cases hc34 : 0 ≤ b5
          · refine gx_1t (c := .ge) rfl (by first | decide | omega) hc34 rfl ?_
            refine ex_go (S := (92, [(3, .inl b5), (2, .inl 0), (0, gx_r 383), (1, .inl 5)], [.inl 5], t0, n, 0)) rfl (fun _ => rfl) rfl ?_
            refine ex_go (S := (93, [(3, .inl b5), (2, .inl 0), (0, gx_r 383), (1, .inl 5)], [.inl 5, .inl 5], t0, n, 0)) rfl (fun _ => rfl) rfl ?_
            refine ex_go (S := (96, [(3, .inl b5), (2, .inl 0), (0, gx_r 383), (1, .inl 5)], [], t0, n, 0)) rfl (fun _ => rfl) rfl ?_
            refine ex_go (S := (97, [(3, .inl b5), (2, .inl 0), (0, gx_r 383), (1, .inl 5)], [gx_r 383], t0, n, 0)) rfl (fun _ => rfl) rfl ?_
            refine ex_go (S := (98, [(3, .inl b5), (2, .inl 0), (0, gx_r 383), (1, .inl 5)], [.inl 5, gx_r 383], t0, n, 0)) rfl (fun _ => rfl) rfl ?_
            obtain ⟨_, r135, t135, a135, f135, rfl, s135, e135, q135⟩ := pk_wrong (d + 1) n (s0) (w := 5) (by first | decide | omega)
            have b135 := s135.2.2.2
            refine gx_call0 rfl rfl s0.1 rfl rfl r135 rfl ?_
            have k36 : ai_hv t135 383 13 = some (.inl c) := (e135 383 13 (by first | decide | omega)).trans kc
            have k37 : ai_hv t135 385 a = some (.inl m2) := (e135 385 a (by first | decide | omega)).trans k3
            have k38 : ai_hv t135 383 21 = some (.inl m9) := (e135 383 21 (by first | decide | omega)).trans k10
            refine ex_go (S := (102, [(3, .inl b5), (2, .inl 0), (0, gx_r 383), (1, .inl 5)], [gx_r 383], t135, n, 0)) rfl (fun _ => rfl) rfl ?_
            refine gx_get rfl s135.1 rfl s135.2.2.1 rfl ?_
            refine gx_1f (c := .le) rfl (by first | decide | omega) (show ¬ (f135 ≤ 0) from by omega) rfl ?_
            refine ex_ret (r := (none, t135, n, 0)) rfl (fun _ => rfl) ?_
            exact ⟨_, rfl, t135, a135, f135, c, rfl, px_X_fault kc (fun c i h => e135 c i (by first | decide | omega)) s135 (by first | decide | omega) (by first | decide | omega)⟩
          · refine gx_1f (c := .ge) rfl (by first | decide | omega) hc34 rfl ?_
            refine ex_go (S := (62, [(3, .inl b5), (2, .inl 0), (0, gx_r 383), (1, .inl 5)], [.inl 0], t0, n, 0)) rfl (fun _ => rfl) rfl ?_
            refine ex_go (S := (65, [(3, .inl b5), (2, .inl 0), (0, gx_r 383), (1, .inl 5)], [], t0, n, 0)) rfl (fun _ => rfl) rfl ?_
            refine ex_go (S := (66, [(3, .inl b5), (2, .inl 0), (0, gx_r 383), (1, .inl 5)], [gx_r 383], t0, n, 0)) rfl (fun _ => rfl) rfl ?_
            refine ex_go (S := (68, [(3, .inl b5), (2, .inl 0), (0, gx_r 383), (1, .inl 5)], [.inl 40, gx_r 383], t0, n, 0)) rfl (fun _ => rfl) rfl ?_
            obtain ⟨_, r41, b39, rfl, q40⟩ := pk_isSign (d + 1) n (s0) (w := 40)
            refine gx_call1 rfl rfl s0.1 rfl rfl r41 rfl ?_
            by_cases hc42 : b39 ≠ 0
            · refine gx_1t (c := .ne) rfl (by first | decide | omega) hc42 rfl ?_
              refine ex_go (S := (92, [(3, .inl b5), (2, .inl 0), (0, gx_r 383), (1, .inl 5)], [.inl 5], t0, n, 0)) rfl (fun _ => rfl) rfl ?_
              refine ex_go (S := (93, [(3, .inl b5), (2, .inl 0), (0, gx_r 383), (1, .inl 5)], [.inl 5, .inl 5], t0, n, 0)) rfl (fun _ => rfl) rfl ?_
              refine ex_go (S := (96, [(3, .inl b5), (2, .inl 0), (0, gx_r 383), (1, .inl 5)], [], t0, n, 0)) rfl (fun _ => rfl) rfl ?_
              refine ex_go (S := (97, [(3, .inl b5), (2, .inl 0), (0, gx_r 383), (1, .inl 5)], [gx_r 383], t0, n, 0)) rfl (fun _ => rfl) rfl ?_
              refine ex_go (S := (98, [(3, .inl b5), (2, .inl 0), (0, gx_r 383), (1, .inl 5)], [.inl 5, gx_r 383], t0, n, 0)) rfl (fun _ => rfl) rfl ?_
              obtain ⟨_, r143, t143, a143, f143, rfl, s143, e143, q143⟩ := pk_wrong (d + 1) n (s0) (w := 5) (by first | decide | omega)
              have b143 := s143.2.2.2
              refine gx_call0 rfl rfl s0.1 rfl rfl r143 rfl ?_
              have k44 : ai_hv t143 383 13 = some (.inl c) := (e143 383 13 (by first | decide | omega)).trans kc
              have k45 : ai_hv t143 385 a = some (.inl m2) := (e143 385 a (by first | decide | omega)).trans k3
              have k46 : ai_hv t143 383 21 = some (.inl m9) := (e143 383 21 (by first | decide | omega)).trans k10
              refine ex_go (S := (102, [(3, .inl b5), (2, .inl 0), (0, gx_r 383), (1, .inl 5)], [gx_r 383], t143, n, 0)) rfl (fun _ => rfl) rfl ?_
              refine gx_get rfl s143.1 rfl s143.2.2.1 rfl ?_
              refine gx_1f (c := .le) rfl (by first | decide | omega) (show ¬ (f143 ≤ 0) from by omega) rfl ?_
              refine ex_ret (r := (none, t143, n, 0)) rfl (fun _ => rfl) ?_
              exact ⟨_, rfl, t143, a143, f143, c, rfl, px_X_fault kc (fun c i h => e143 c i (by first | decide | omega)) s143 (by first | decide | omega) (by first | decide | omega)⟩
            · refine gx_1f (c := .ne) rfl (by first | decide | omega) hc42 rfl ?_
              refine ex_go (S := (75, [(3, .inl b5), (2, .inl 0), (0, gx_r 383), (1, .inl 5)], [gx_r 383], t0, n, 0)) rfl (fun _ => rfl) rfl ?_
              refine ex_go (S := (77, [(3, .inl b5), (2, .inl 0), (0, gx_r 383), (1, .inl 5)], [.inl 35, gx_r 383], t0, n, 0)) rfl (fun _ => rfl) rfl ?_
              obtain ⟨_, r49, b47, rfl, q48⟩ := pk_isWord (d + 1) n (s0) (w := 35) (by first | decide | omega)
              refine gx_call1 rfl rfl s0.1 rfl rfl r49 rfl ?_
              by_cases hc50 : b47 ≠ 0
              · refine gx_1t (c := .ne) rfl (by first | decide | omega) hc50 rfl ?_
                refine ex_go (S := (92, [(3, .inl b5), (2, .inl 0), (0, gx_r 383), (1, .inl 5)], [.inl 5], t0, n, 0)) rfl (fun _ => rfl) rfl ?_
                refine ex_go (S := (93, [(3, .inl b5), (2, .inl 0), (0, gx_r 383), (1, .inl 5)], [.inl 5, .inl 5], t0, n, 0)) rfl (fun _ => rfl) rfl ?_
                refine ex_go (S := (96, [(3, .inl b5), (2, .inl 0), (0, gx_r 383), (1, .inl 5)], [], t0, n, 0)) rfl (fun _ => rfl) rfl ?_
                refine ex_go (S := (97, [(3, .inl b5), (2, .inl 0), (0, gx_r 383), (1, .inl 5)], [gx_r 383], t0, n, 0)) rfl (fun _ => rfl) rfl ?_
                refine ex_go (S := (98, [(3, .inl b5), (2, .inl 0), (0, gx_r 383), (1, .inl 5)], [.inl 5, gx_r 383], t0, n, 0)) rfl (fun _ => rfl) rfl ?_
                obtain ⟨_, r151, t151, a151, f151, rfl, s151, e151, q151⟩ := pk_wrong (d + 1) n (s0) (w := 5) (by first | decide | omega)
                have b151 := s151.2.2.2
                refine gx_call0 rfl rfl s0.1 rfl rfl r151 rfl ?_
                have k52 : ai_hv t151 383 13 = some (.inl c) := (e151 383 13 (by first | decide | omega)).trans kc
                have k53 : ai_hv t151 385 a = some (.inl m2) := (e151 385 a (by first | decide | omega)).trans k3
                have k54 : ai_hv t151 383 21 = some (.inl m9) := (e151 383 21 (by first | decide | omega)).trans k10
                refine ex_go (S := (102, [(3, .inl b5), (2, .inl 0), (0, gx_r 383), (1, .inl 5)], [gx_r 383], t151, n, 0)) rfl (fun _ => rfl) rfl ?_
                refine gx_get rfl s151.1 rfl s151.2.2.1 rfl ?_
                refine gx_1f (c := .le) rfl (by first | decide | omega) (show ¬ (f151 ≤ 0) from by omega) rfl ?_
                refine ex_ret (r := (none, t151, n, 0)) rfl (fun _ => rfl) ?_
                exact ⟨_, rfl, t151, a151, f151, c, rfl, px_X_fault kc (fun c i h => e151 c i (by first | decide | omega)) s151 (by first | decide | omega) (by first | decide | omega)⟩
              · refine gx_1f (c := .ne) rfl (by first | decide | omega) hc50 rfl ?_
                refine ex_go (S := (84, [(3, .inl b5), (2, .inl 0), (0, gx_r 383), (1, .inl 5)], [gx_r 383], t0, n, 0)) rfl (fun _ => rfl) rfl ?_
                refine ex_go (S := (85, [(3, .inl b5), (2, .inl 0), (0, gx_r 383), (1, .inl 5)], [.inl 1, gx_r 383], t0, n, 0)) rfl (fun _ => rfl) rfl ?_
                obtain ⟨_, r155, t155, a155, f155, rfl, s155, e155, q155⟩ := pk_wrong (d + 1) n (s0) (w := 1) (by first | decide | omega)
                have b155 := s155.2.2.2
                refine gx_call0 rfl rfl s0.1 rfl rfl r155 rfl ?_
                have k56 : ai_hv t155 383 13 = some (.inl c) := (e155 383 13 (by first | decide | omega)).trans kc
                have k57 : ai_hv t155 385 a = some (.inl m2) := (e155 385 a (by first | decide | omega)).trans k3
                have k58 : ai_hv t155 383 21 = some (.inl m9) := (e155 383 21 (by first | decide | omega)).trans k10
                refine ex_go (S := (101, [(3, .inl b5), (2, .inl 0), (0, gx_r 383), (1, .inl 5)], [], t155, n, 0)) rfl (fun _ => rfl) rfl ?_
                refine ex_go (S := (102, [(3, .inl b5), (2, .inl 0), (0, gx_r 383), (1, .inl 5)], [gx_r 383], t155, n, 0)) rfl (fun _ => rfl) rfl ?_
                refine gx_get rfl s155.1 rfl s155.2.2.1 rfl ?_
                refine gx_1f (c := .le) rfl (by first | decide | omega) (show ¬ (f155 ≤ 0) from by omega) rfl ?_
                refine ex_ret (r := (none, t155, n, 0)) rfl (fun _ => rfl) ?_
                exact ⟨_, rfl, t155, a155, f155, c, rfl, px_X_fault kc (fun c i h => e155 c i (by first | decide | omega)) s155 (by first | decide | omega) (by first | decide | omega)⟩
      · subst hn8
        refine ex_go (S := (55, [(3, .inl 4294967295), (2, .inl 0), (0, gx_r 383), (1, .inl 5)], [], t0, n, 0)) rfl (fun _ => rfl) rfl ?_
        refine ex_go (S := (56, [(3, .inl 4294967295), (2, .inl 0), (0, gx_r 383), (1, .inl 5)], [.inl 4294967295], t0, n, 0)) rfl (fun _ => rfl) rfl ?_
        refine ex_go (S := (57, [(3, .inl 4294967295), (2, .inl 0), (0, gx_r 383), (1, .inl 5)], [], t0, n, 0)) rfl (fun _ => rfl) rfl ?_
        refine ex_go (S := (58, [(3, .inl 4294967295), (2, .inl 0), (0, gx_r 383), (1, .inl 5)], [.inl 4294967295], t0, n, 0)) rfl (fun _ => rfl) rfl ?_
        refine ex_go (S := (61, [(3, .inl 4294967295), (2, .inl 0), (0, gx_r 383), (1, .inl 5)], [], t0, n, 0)) rfl (fun _ => rfl) rfl ?_
        refine ex_go (S := (62, [(3, .inl 4294967295), (2, .inl 0), (0, gx_r 383), (1, .inl 5)], [.inl 0], t0, n, 0)) rfl (fun _ => rfl) rfl ?_
        refine ex_go (S := (65, [(3, .inl 4294967295), (2, .inl 0), (0, gx_r 383), (1, .inl 5)], [], t0, n, 0)) rfl (fun _ => rfl) rfl ?_
        refine ex_go (S := (66, [(3, .inl 4294967295), (2, .inl 0), (0, gx_r 383), (1, .inl 5)], [gx_r 383], t0, n, 0)) rfl (fun _ => rfl) rfl ?_
        refine ex_go (S := (68, [(3, .inl 4294967295), (2, .inl 0), (0, gx_r 383), (1, .inl 5)], [.inl 40, gx_r 383], t0, n, 0)) rfl (fun _ => rfl) rfl ?_
        obtain ⟨_, r61, b59, rfl, q60⟩ := pk_isSign (d + 1) n (s0) (w := 40)
        refine gx_call1 rfl rfl s0.1 rfl rfl r61 rfl ?_
        by_cases hc62 : b59 ≠ 0
        · refine gx_1t (c := .ne) rfl (by first | decide | omega) hc62 rfl ?_
          refine ex_go (S := (92, [(3, .inl 4294967295), (2, .inl 0), (0, gx_r 383), (1, .inl 5)], [.inl 5], t0, n, 0)) rfl (fun _ => rfl) rfl ?_
          refine ex_go (S := (93, [(3, .inl 4294967295), (2, .inl 0), (0, gx_r 383), (1, .inl 5)], [.inl 5, .inl 5], t0, n, 0)) rfl (fun _ => rfl) rfl ?_
          refine ex_go (S := (96, [(3, .inl 4294967295), (2, .inl 0), (0, gx_r 383), (1, .inl 5)], [], t0, n, 0)) rfl (fun _ => rfl) rfl ?_
          refine ex_go (S := (97, [(3, .inl 4294967295), (2, .inl 0), (0, gx_r 383), (1, .inl 5)], [gx_r 383], t0, n, 0)) rfl (fun _ => rfl) rfl ?_
          refine ex_go (S := (98, [(3, .inl 4294967295), (2, .inl 0), (0, gx_r 383), (1, .inl 5)], [.inl 5, gx_r 383], t0, n, 0)) rfl (fun _ => rfl) rfl ?_
          obtain ⟨_, r163, t163, a163, f163, rfl, s163, e163, q163⟩ := pk_wrong (d + 1) n (s0) (w := 5) (by first | decide | omega)
          have b163 := s163.2.2.2
          refine gx_call0 rfl rfl s0.1 rfl rfl r163 rfl ?_
          have k64 : ai_hv t163 383 13 = some (.inl c) := (e163 383 13 (by first | decide | omega)).trans kc
          have k65 : ai_hv t163 385 a = some (.inl m2) := (e163 385 a (by first | decide | omega)).trans k3
          refine ex_go (S := (102, [(3, .inl 4294967295), (2, .inl 0), (0, gx_r 383), (1, .inl 5)], [gx_r 383], t163, n, 0)) rfl (fun _ => rfl) rfl ?_
          refine gx_get rfl s163.1 rfl s163.2.2.1 rfl ?_
          refine gx_1f (c := .le) rfl (by first | decide | omega) (show ¬ (f163 ≤ 0) from by omega) rfl ?_
          refine ex_ret (r := (none, t163, n, 0)) rfl (fun _ => rfl) ?_
          exact ⟨_, rfl, t163, a163, f163, c, rfl, px_X_fault kc (fun c i h => e163 c i (by first | decide | omega)) s163 (by first | decide | omega) (by first | decide | omega)⟩
        · refine gx_1f (c := .ne) rfl (by first | decide | omega) hc62 rfl ?_
          refine ex_go (S := (75, [(3, .inl 4294967295), (2, .inl 0), (0, gx_r 383), (1, .inl 5)], [gx_r 383], t0, n, 0)) rfl (fun _ => rfl) rfl ?_
          refine ex_go (S := (77, [(3, .inl 4294967295), (2, .inl 0), (0, gx_r 383), (1, .inl 5)], [.inl 35, gx_r 383], t0, n, 0)) rfl (fun _ => rfl) rfl ?_
          obtain ⟨_, r68, b66, rfl, q67⟩ := pk_isWord (d + 1) n (s0) (w := 35) (by first | decide | omega)
          refine gx_call1 rfl rfl s0.1 rfl rfl r68 rfl ?_
          by_cases hc69 : b66 ≠ 0
          · refine gx_1t (c := .ne) rfl (by first | decide | omega) hc69 rfl ?_
            refine ex_go (S := (92, [(3, .inl 4294967295), (2, .inl 0), (0, gx_r 383), (1, .inl 5)], [.inl 5], t0, n, 0)) rfl (fun _ => rfl) rfl ?_
            refine ex_go (S := (93, [(3, .inl 4294967295), (2, .inl 0), (0, gx_r 383), (1, .inl 5)], [.inl 5, .inl 5], t0, n, 0)) rfl (fun _ => rfl) rfl ?_
            refine ex_go (S := (96, [(3, .inl 4294967295), (2, .inl 0), (0, gx_r 383), (1, .inl 5)], [], t0, n, 0)) rfl (fun _ => rfl) rfl ?_
            refine ex_go (S := (97, [(3, .inl 4294967295), (2, .inl 0), (0, gx_r 383), (1, .inl 5)], [gx_r 383], t0, n, 0)) rfl (fun _ => rfl) rfl ?_
            refine ex_go (S := (98, [(3, .inl 4294967295), (2, .inl 0), (0, gx_r 383), (1, .inl 5)], [.inl 5, gx_r 383], t0, n, 0)) rfl (fun _ => rfl) rfl ?_
            obtain ⟨_, r170, t170, a170, f170, rfl, s170, e170, q170⟩ := pk_wrong (d + 1) n (s0) (w := 5) (by first | decide | omega)
            have b170 := s170.2.2.2
            refine gx_call0 rfl rfl s0.1 rfl rfl r170 rfl ?_
            have k71 : ai_hv t170 383 13 = some (.inl c) := (e170 383 13 (by first | decide | omega)).trans kc
            have k72 : ai_hv t170 385 a = some (.inl m2) := (e170 385 a (by first | decide | omega)).trans k3
            refine ex_go (S := (102, [(3, .inl 4294967295), (2, .inl 0), (0, gx_r 383), (1, .inl 5)], [gx_r 383], t170, n, 0)) rfl (fun _ => rfl) rfl ?_
            refine gx_get rfl s170.1 rfl s170.2.2.1 rfl ?_
            refine gx_1f (c := .le) rfl (by first | decide | omega) (show ¬ (f170 ≤ 0) from by omega) rfl ?_
            refine ex_ret (r := (none, t170, n, 0)) rfl (fun _ => rfl) ?_
            exact ⟨_, rfl, t170, a170, f170, c, rfl, px_X_fault kc (fun c i h => e170 c i (by first | decide | omega)) s170 (by first | decide | omega) (by first | decide | omega)⟩
          · refine gx_1f (c := .ne) rfl (by first | decide | omega) hc69 rfl ?_
            refine ex_go (S := (84, [(3, .inl 4294967295), (2, .inl 0), (0, gx_r 383), (1, .inl 5)], [gx_r 383], t0, n, 0)) rfl (fun _ => rfl) rfl ?_
            refine ex_go (S := (85, [(3, .inl 4294967295), (2, .inl 0), (0, gx_r 383), (1, .inl 5)], [.inl 1, gx_r 383], t0, n, 0)) rfl (fun _ => rfl) rfl ?_
            obtain ⟨_, r173, t173, a173, f173, rfl, s173, e173, q173⟩ := pk_wrong (d + 1) n (s0) (w := 1) (by first | decide | omega)
            have b173 := s173.2.2.2
            refine gx_call0 rfl rfl s0.1 rfl rfl r173 rfl ?_
            have k74 : ai_hv t173 383 13 = some (.inl c) := (e173 383 13 (by first | decide | omega)).trans kc
            have k75 : ai_hv t173 385 a = some (.inl m2) := (e173 385 a (by first | decide | omega)).trans k3
            refine ex_go (S := (101, [(3, .inl 4294967295), (2, .inl 0), (0, gx_r 383), (1, .inl 5)], [], t173, n, 0)) rfl (fun _ => rfl) rfl ?_
            refine ex_go (S := (102, [(3, .inl 4294967295), (2, .inl 0), (0, gx_r 383), (1, .inl 5)], [gx_r 383], t173, n, 0)) rfl (fun _ => rfl) rfl ?_
            refine gx_get rfl s173.1 rfl s173.2.2.1 rfl ?_
            refine gx_1f (c := .le) rfl (by first | decide | omega) (show ¬ (f173 ≤ 0) from by omega) rfl ?_
            refine ex_ret (r := (none, t173, n, 0)) rfl (fun _ => rfl) ?_
            exact ⟨_, rfl, t173, a173, f173, c, rfl, px_X_fault kc (fun c i h => e173 c i (by first | decide | omega)) s173 (by first | decide | omega) (by first | decide | omega)⟩
    · refine gx_2f (c := .ne) rfl (by first | decide | omega) (by first | decide | omega) hc4 rfl ?_
      refine ex_go (S := (22, [(0, gx_r 383), (1, .inl 5)], [.inl 1], t0, n, 0)) rfl (fun _ => rfl) rfl ?_
      refine ex_go (S := (26, [(0, gx_r 383), (1, .inl 5)], [.inl 1], t0, n, 0)) rfl (fun _ => rfl) rfl ?_
      refine ex_go (S := (27, [(2, .inl 1), (0, gx_r 383), (1, .inl 5)], [], t0, n, 0)) rfl (fun _ => rfl) rfl ?_
      refine ex_go (S := (28, [(2, .inl 1), (0, gx_r 383), (1, .inl 5)], [gx_r 383], t0, n, 0)) rfl (fun _ => rfl) rfl ?_
      refine ex_go (S := (30, [(2, .inl 1), (0, gx_r 383), (1, .inl 5)], [.inl 38, gx_r 383], t0, n, 0)) rfl (fun _ => rfl) rfl ?_
      refine ex_go (S := (31, [(2, .inl 1), (0, gx_r 383), (1, .inl 5)], [.inl 4, .inl 38, gx_r 383], t0, n, 0)) rfl (fun _ => rfl) rfl ?_
      obtain ⟨_, r78, b76, rfl, q77⟩ := pk_wordHere (d) n (s0) (w := 38) (m := 4) (by first | decide | omega)
      refine gx_call1 rfl rfl s0.1 rfl rfl r78 rfl ?_
      refine ex_go (S := (35, [(3, .inl b76), (2, .inl 1), (0, gx_r 383), (1, .inl 5)], [], t0, n, 0)) rfl (fun _ => rfl) rfl ?_
      refine ex_go (S := (36, [(3, .inl b76), (2, .inl 1), (0, gx_r 383), (1, .inl 5)], [.inl b76], t0, n, 0)) rfl (fun _ => rfl) rfl ?_
      rcases q77 with hn79 | hn79
      · have := hn79
        refine gx_1f (c := .lt) rfl (by first | decide | omega) (show ¬ (b76 < 0) from by omega) rfl ?_
        refine ex_go (S := (40, [(3, .inl b76), (2, .inl 1), (0, gx_r 383), (1, .inl 5)], [gx_r 383], t0, n, 0)) rfl (fun _ => rfl) rfl ?_
        obtain ⟨m80, k81, m80l, m80h⟩ := gx_in (c := 383) (i := 21) (lo := 0) (hi := 8) s0.1 rfl rfl rfl rfl
        refine gx_get rfl s0.1 rfl k81 rfl ?_
        refine ex_go (S := (44, [(3, .inl b76), (2, .inl 1), (0, gx_r 383), (1, .inl 5)], [.inl b76, .inl m80], t0, n, 0)) rfl (fun _ => rfl) rfl ?_
        refine gx_ishrw rfl rfl (fun z82 z82b => ?_)
        refine ex_go (S := (46, [(3, .inl b76), (2, .inl 1), (0, gx_r 383), (1, .inl 5)], [.inl 1, .inl z82], t0, n, 0)) rfl (fun _ => rfl) rfl ?_
        refine gx_iand1 rfl (by first | decide | omega) rfl (fun z83 z83b => ?_)
        refine ex_go (S := (48, [(3, .inl b76), (2, .inl 1), (0, gx_r 383), (1, .inl 5)], [.inl 1, .inl z83], t0, n, 0)) rfl (fun _ => rfl) rfl ?_
        by_cases hc84 : z83 ≠ 1
        · refine gx_2t (c := .ne) rfl (by first | decide | omega) (by first | decide | omega) hc84 rfl ?_
          refine ex_go (S := (56, [(3, .inl b76), (2, .inl 1), (0, gx_r 383), (1, .inl 5)], [.inl 4294967295], t0, n, 0)) rfl (fun _ => rfl) rfl ?_
          refine ex_go (S := (57, [(3, .inl 4294967295), (2, .inl 1), (0, gx_r 383), (1, .inl 5)], [], t0, n, 0)) rfl (fun _ => rfl) rfl ?_
          refine ex_go (S := (58, [(3, .inl 4294967295), (2, .inl 1), (0, gx_r 383), (1, .inl 5)], [.inl 4294967295], t0, n, 0)) rfl (fun _ => rfl) rfl ?_
          refine ex_go (S := (61, [(3, .inl 4294967295), (2, .inl 1), (0, gx_r 383), (1, .inl 5)], [], t0, n, 0)) rfl (fun _ => rfl) rfl ?_
          refine ex_go (S := (62, [(3, .inl 4294967295), (2, .inl 1), (0, gx_r 383), (1, .inl 5)], [.inl 1], t0, n, 0)) rfl (fun _ => rfl) rfl ?_
          refine ex_go (S := (91, [(3, .inl 4294967295), (2, .inl 1), (0, gx_r 383), (1, .inl 5)], [], t0, n, 0)) rfl (fun _ => rfl) rfl ?_
          refine ex_go (S := (92, [(3, .inl 4294967295), (2, .inl 1), (0, gx_r 383), (1, .inl 5)], [.inl 5], t0, n, 0)) rfl (fun _ => rfl) rfl ?_
          refine ex_go (S := (93, [(3, .inl 4294967295), (2, .inl 1), (0, gx_r 383), (1, .inl 5)], [.inl 5, .inl 5], t0, n, 0)) rfl (fun _ => rfl) rfl ?_
          refine ex_go (S := (96, [(3, .inl 4294967295), (2, .inl 1), (0, gx_r 383), (1, .inl 5)], [], t0, n, 0)) rfl (fun _ => rfl) rfl ?_
          refine ex_go (S := (97, [(3, .inl 4294967295), (2, .inl 1), (0, gx_r 383), (1, .inl 5)], [gx_r 383], t0, n, 0)) rfl (fun _ => rfl) rfl ?_
          refine ex_go (S := (98, [(3, .inl 4294967295), (2, .inl 1), (0, gx_r 383), (1, .inl 5)], [.inl 5, gx_r 383], t0, n, 0)) rfl (fun _ => rfl) rfl ?_
          obtain ⟨_, r185, t185, a185, f185, rfl, s185, e185, q185⟩ := pk_wrong (d + 1) n (s0) (w := 5) (by first | decide | omega)
          have b185 := s185.2.2.2
          refine gx_call0 rfl rfl s0.1 rfl rfl r185 rfl ?_
          have k86 : ai_hv t185 383 13 = some (.inl c) := (e185 383 13 (by first | decide | omega)).trans kc
          have k87 : ai_hv t185 385 a = some (.inl m2) := (e185 385 a (by first | decide | omega)).trans k3
          have k88 : ai_hv t185 383 21 = some (.inl m80) := (e185 383 21 (by first | decide | omega)).trans k81
          refine ex_go (S := (102, [(3, .inl 4294967295), (2, .inl 1), (0, gx_r 383), (1, .inl 5)], [gx_r 383], t185, n, 0)) rfl (fun _ => rfl) rfl ?_
          refine gx_get rfl s185.1 rfl s185.2.2.1 rfl ?_
          refine gx_1f (c := .le) rfl (by first | decide | omega) (show ¬ (f185 ≤ 0) from by omega) rfl ?_
          refine ex_ret (r := (none, t185, n, 0)) rfl (fun _ => rfl) ?_
          exact ⟨_, rfl, t185, a185, f185, c, rfl, px_X_fault kc (fun c i h => e185 c i (by first | decide | omega)) s185 (by first | decide | omega) (by first | decide | omega)⟩
        · refine gx_2f (c := .ne) rfl (by first | decide | omega) (by first | decide | omega) hc84 rfl ?_
          refine ex_go (S := (52, [(3, .inl b76), (2, .inl 1), (0, gx_r 383), (1, .inl 5)], [.inl b76], t0, n, 0)) rfl (fun _ => rfl) rfl ?_
          refine ex_go (S := (56, [(3, .inl b76), (2, .inl 1), (0, gx_r 383), (1, .inl 5)], [.inl b76], t0, n, 0)) rfl (fun _ => rfl) rfl ?_
          refine ex_go (S := (57, [(3, .inl b76), (2, .inl 1), (0, gx_r 383), (1, .inl 5)], [], t0, n, 0)) rfl (fun _ => rfl) rfl ?_
          refine ex_go (S := (58, [(3, .inl b76), (2, .inl 1), (0, gx_r 383), (1, .inl 5)], [.inl b76], t0, n, 0)) rfl (fun _ => rfl) rfl ?_
          by_cases hc89 : 0 ≤ b76
          · refine gx_1t (c := .ge) rfl (by first | decide | omega) hc89 rfl ?_
            refine ex_go (S := (92, [(3, .inl b76), (2, .inl 1), (0, gx_r 383), (1, .inl 5)], [.inl 5], t0, n, 0)) rfl (fun _ => rfl) rfl ?_
            refine ex_go (S := (93, [(3, .inl b76), (2, .inl 1), (0, gx_r 383), (1, .inl 5)], [.inl 5, .inl 5], t0, n, 0)) rfl (fun _ => rfl) rfl ?_
            refine ex_go (S := (96, [(3, .inl b76), (2, .inl 1), (0, gx_r 383), (1, .inl 5)], [], t0, n, 0)) rfl (fun _ => rfl) rfl ?_
            refine ex_go (S := (97, [(3, .inl b76), (2, .inl 1), (0, gx_r 383), (1, .inl 5)], [gx_r 383], t0, n, 0)) rfl (fun _ => rfl) rfl ?_
            refine ex_go (S := (98, [(3, .inl b76), (2, .inl 1), (0, gx_r 383), (1, .inl 5)], [.inl 5, gx_r 383], t0, n, 0)) rfl (fun _ => rfl) rfl ?_
            obtain ⟨_, r190, t190, a190, f190, rfl, s190, e190, q190⟩ := pk_wrong (d + 1) n (s0) (w := 5) (by first | decide | omega)
            have b190 := s190.2.2.2
            refine gx_call0 rfl rfl s0.1 rfl rfl r190 rfl ?_
            have k91 : ai_hv t190 383 13 = some (.inl c) := (e190 383 13 (by first | decide | omega)).trans kc
            have k92 : ai_hv t190 385 a = some (.inl m2) := (e190 385 a (by first | decide | omega)).trans k3
            have k93 : ai_hv t190 383 21 = some (.inl m80) := (e190 383 21 (by first | decide | omega)).trans k81
            refine ex_go (S := (102, [(3, .inl b76), (2, .inl 1), (0, gx_r 383), (1, .inl 5)], [gx_r 383], t190, n, 0)) rfl (fun _ => rfl) rfl ?_
            refine gx_get rfl s190.1 rfl s190.2.2.1 rfl ?_
            refine gx_1f (c := .le) rfl (by first | decide | omega) (show ¬ (f190 ≤ 0) from by omega) rfl ?_
            refine ex_ret (r := (none, t190, n, 0)) rfl (fun _ => rfl) ?_
            exact ⟨_, rfl, t190, a190, f190, c, rfl, px_X_fault kc (fun c i h => e190 c i (by first | decide | omega)) s190 (by first | decide | omega) (by first | decide | omega)⟩
          · refine gx_1f (c := .ge) rfl (by first | decide | omega) hc89 rfl ?_
            refine ex_go (S := (62, [(3, .inl b76), (2, .inl 1), (0, gx_r 383), (1, .inl 5)], [.inl 1], t0, n, 0)) rfl (fun _ => rfl) rfl ?_
            refine ex_go (S := (91, [(3, .inl b76), (2, .inl 1), (0, gx_r 383), (1, .inl 5)], [], t0, n, 0)) rfl (fun _ => rfl) rfl ?_
            refine ex_go (S := (92, [(3, .inl b76), (2, .inl 1), (0, gx_r 383), (1, .inl 5)], [.inl 5], t0, n, 0)) rfl (fun _ => rfl) rfl ?_
            refine ex_go (S := (93, [(3, .inl b76), (2, .inl 1), (0, gx_r 383), (1, .inl 5)], [.inl 5, .inl 5], t0, n, 0)) rfl (fun _ => rfl) rfl ?_
            refine ex_go (S := (96, [(3, .inl b76), (2, .inl 1), (0, gx_r 383), (1, .inl 5)], [], t0, n, 0)) rfl (fun _ => rfl) rfl ?_
            refine ex_go (S := (97, [(3, .inl b76), (2, .inl 1), (0, gx_r 383), (1, .inl 5)], [gx_r 383], t0, n, 0)) rfl (fun _ => rfl) rfl ?_
            refine ex_go (S := (98, [(3, .inl b76), (2, .inl 1), (0, gx_r 383), (1, .inl 5)], [.inl 5, gx_r 383], t0, n, 0)) rfl (fun _ => rfl) rfl ?_
            obtain ⟨_, r194, t194, a194, f194, rfl, s194, e194, q194⟩ := pk_wrong (d + 1) n (s0) (w := 5) (by first | decide | omega)
            have b194 := s194.2.2.2
            refine gx_call0 rfl rfl s0.1 rfl rfl r194 rfl ?_
            have k95 : ai_hv t194 383 13 = some (.inl c) := (e194 383 13 (by first | decide | omega)).trans kc
            have k96 : ai_hv t194 385 a = some (.inl m2) := (e194 385 a (by first | decide | omega)).trans k3
            have k97 : ai_hv t194 383 21 = some (.inl m80) := (e194 383 21 (by first | decide | omega)).trans k81
            refine ex_go (S := (102, [(3, .inl b76), (2, .inl 1), (0, gx_r 383), (1, .inl 5)], [gx_r 383], t194, n, 0)) rfl (fun _ => rfl) rfl ?_
            refine gx_get rfl s194.1 rfl s194.2.2.1 rfl ?_
            refine gx_1f (c := .le) rfl (by first | decide | omega) (show ¬ (f194 ≤ 0) from by omega) rfl ?_
            refine ex_ret (r := (none, t194, n, 0)) rfl (fun _ => rfl) ?_
            exact ⟨_, rfl, t194, a194, f194, c, rfl, px_X_fault kc (fun c i h => e194 c i (by first | decide | omega)) s194 (by first | decide | omega) (by first | decide | omega)⟩
      · subst hn79
        refine ex_go (S := (55, [(3, .inl 4294967295), (2, .inl 1), (0, gx_r 383), (1, .inl 5)], [], t0, n, 0)) rfl (fun _ => rfl) rfl ?_
        refine ex_go (S := (56, [(3, .inl 4294967295), (2, .inl 1), (0, gx_r 383), (1, .inl 5)], [.inl 4294967295], t0, n, 0)) rfl (fun _ => rfl) rfl ?_
        refine ex_go (S := (57, [(3, .inl 4294967295), (2, .inl 1), (0, gx_r 383), (1, .inl 5)], [], t0, n, 0)) rfl (fun _ => rfl) rfl ?_
        refine ex_go (S := (58, [(3, .inl 4294967295), (2, .inl 1), (0, gx_r 383), (1, .inl 5)], [.inl 4294967295], t0, n, 0)) rfl (fun _ => rfl) rfl ?_
        refine ex_go (S := (61, [(3, .inl 4294967295), (2, .inl 1), (0, gx_r 383), (1, .inl 5)], [], t0, n, 0)) rfl (fun _ => rfl) rfl ?_
        refine ex_go (S := (62, [(3, .inl 4294967295), (2, .inl 1), (0, gx_r 383), (1, .inl 5)], [.inl 1], t0, n, 0)) rfl (fun _ => rfl) rfl ?_
        refine ex_go (S := (91, [(3, .inl 4294967295), (2, .inl 1), (0, gx_r 383), (1, .inl 5)], [], t0, n, 0)) rfl (fun _ => rfl) rfl ?_
        refine ex_go (S := (92, [(3, .inl 4294967295), (2, .inl 1), (0, gx_r 383), (1, .inl 5)], [.inl 5], t0, n, 0)) rfl (fun _ => rfl) rfl ?_
        refine ex_go (S := (93, [(3, .inl 4294967295), (2, .inl 1), (0, gx_r 383), (1, .inl 5)], [.inl 5, .inl 5], t0, n, 0)) rfl (fun _ => rfl) rfl ?_
        refine ex_go (S := (96, [(3, .inl 4294967295), (2, .inl 1), (0, gx_r 383), (1, .inl 5)], [], t0, n, 0)) rfl (fun _ => rfl) rfl ?_
        refine ex_go (S := (97, [(3, .inl 4294967295), (2, .inl 1), (0, gx_r 383), (1, .inl 5)], [gx_r 383], t0, n, 0)) rfl (fun _ => rfl) rfl ?_
        refine ex_go (S := (98, [(3, .inl 4294967295), (2, .inl 1), (0, gx_r 383), (1, .inl 5)], [.inl 5, gx_r 383], t0, n, 0)) rfl (fun _ => rfl) rfl ?_
        obtain ⟨_, r198, t198, a198, f198, rfl, s198, e198, q198⟩ := pk_wrong (d + 1) n (s0) (w := 5) (by first | decide | omega)
        have b198 := s198.2.2.2
        refine gx_call0 rfl rfl s0.1 rfl rfl r198 rfl ?_
        have k99 : ai_hv t198 383 13 = some (.inl c) := (e198 383 13 (by first | decide | omega)).trans kc
        have k100 : ai_hv t198 385 a = some (.inl m2) := (e198 385 a (by first | decide | omega)).trans k3
        refine ex_go (S := (102, [(3, .inl 4294967295), (2, .inl 1), (0, gx_r 383), (1, .inl 5)], [gx_r 383], t198, n, 0)) rfl (fun _ => rfl) rfl ?_
        refine gx_get rfl s198.1 rfl s198.2.2.1 rfl ?_
        refine gx_1f (c := .le) rfl (by first | decide | omega) (show ¬ (f198 ≤ 0) from by omega) rfl ?_
        refine ex_ret (r := (none, t198, n, 0)) rfl (fun _ => rfl) ?_
        exact ⟨_, rfl, t198, a198, f198, c, rfl, px_X_fault kc (fun c i h => e198 c i (by first | decide | omega)) s198 (by first | decide | omega) (by first | decide | omega)⟩
  · refine gx_1f (c := .le) rfl (by first | decide | omega) hc1 rfl ?_
    refine ex_ret (r := (none, t0, n, 0)) rfl (fun _ => rfl) ?_
    exact ⟨_, rfl, t0, a, f, c, rfl, px_X_fault kc (fun _ _ _ => rfl) s0 (by first | decide | omega) (by first | decide | omega)⟩
theorem pk_takePart {l e : Nat} (hT : ∀ d, px_C (d + l + 3) 288 (e + 1)) (hA : ∀ d, px_C (d + l + 7) 247 (e + 1)) (he : e ≤ 4) (d : Nat) : px_C (d + l + 8) 288 e := by
  intro n t0 a f c s0 kc hca
  have b0 := s0.2.2.2
  refine en_u_ex (d := d + l + 7) rfl ?_
  show en_ex _ _ _ _ (0, [(0, gx_r 383), (1, .inl e)], [], t0, n, 0) _
  refine ex_go (S := (1, [(0, gx_r 383), (1, .inl e)], [gx_r 383], t0, n, 0)) rfl (fun _ => rfl) rfl ?_
  refine gx_get rfl s0.1 rfl s0.2.2.1 rfl ?_
  by_cases hc1 : f ≤ 0
  · refine gx_1t (c := .le) rfl (by first | decide | omega) hc1 rfl ?_
    refine ex_go (S := (9, [(0, gx_r 383), (1, .inl e)], [gx_r 383], t0, n, 0)) rfl (fun _ => rfl) rfl ?_
    refine gx_ref (c := 385) rfl s0.1 rfl rfl rfl rfl ?_
    refine ex_go (S := (13, [(0, gx_r 383), (1, .inl e)], [gx_r 383, gx_r 385], t0, n, 0)) rfl (fun _ => rfl) rfl ?_
    refine gx_get rfl s0.1 rfl s0.2.1 rfl ?_
    obtain ⟨m2, k3, m2b⟩ := gx_sort s0.1 (i := a) (by first | decide | omega)
    refine gx_ag (v := .inl m2) (cb := fun c => Nat.beq c 0) rfl (fun _ => rfl) s0.1 rfl rfl k3 (by first | decide | omega) rfl ?_
    refine ex_go (S := (18, [(0, gx_r 383), (1, .inl e)], [.inl 2, .inl m2], t0, n, 0)) rfl (fun _ => rfl) rfl ?_
    by_cases hc4 : m2 ≠ 2
    · refine gx_2t (c := .ne) rfl (by first | decide | omega) (by first | decide | omega) hc4 rfl ?_
      refine ex_go (S := (26, [(0, gx_r 383), (1, .inl e)], [.inl 0], t0, n, 0)) rfl (fun _ => rfl) rfl ?_
      refine ex_go (S := (27, [(2, .inl 0), (0, gx_r 383), (1, .inl e)], [], t0, n, 0)) rfl (fun _ => rfl) rfl ?_
      refine ex_go (S := (28, [(2, .inl 0), (0, gx_r 383), (1, .inl e)], [gx_r 383], t0, n, 0)) rfl (fun _ => rfl) rfl ?_
      refine ex_go (S := (30, [(2, .inl 0), (0, gx_r 383), (1, .inl e)], [.inl 38, gx_r 383], t0, n, 0)) rfl (fun _ => rfl) rfl ?_
      refine ex_go (S := (31, [(2, .inl 0), (0, gx_r 383), (1, .inl e)], [.inl 4, .inl 38, gx_r 383], t0, n, 0)) rfl (fun _ => rfl) rfl ?_
      obtain ⟨_, r7, b5, rfl, q6⟩ := pk_wordHere (d + l + 5) n (s0) (w := 38) (m := 4) (by first | decide | omega)
      refine gx_call1 rfl rfl s0.1 rfl rfl r7 rfl ?_
      refine ex_go (S := (35, [(3, .inl b5), (2, .inl 0), (0, gx_r 383), (1, .inl e)], [], t0, n, 0)) rfl (fun _ => rfl) rfl ?_
      refine ex_go (S := (36, [(3, .inl b5), (2, .inl 0), (0, gx_r 383), (1, .inl e)], [.inl b5], t0, n, 0)) rfl (fun _ => rfl) rfl ?_
      rcases q6 with hn8 | hn8
      · have := hn8
        refine gx_1f (c := .lt) rfl (by first | decide | omega) (show ¬ (b5 < 0) from by omega) rfl ?_
        refine ex_go (S := (40, [(3, .inl b5), (2, .inl 0), (0, gx_r 383), (1, .inl e)], [gx_r 383], t0, n, 0)) rfl (fun _ => rfl) rfl ?_
        obtain ⟨m9, k10, m9l, m9h⟩ := gx_in (c := 383) (i := 21) (lo := 0) (hi := 8) s0.1 rfl rfl rfl rfl
        refine gx_get rfl s0.1 rfl k10 rfl ?_
        refine ex_go (S := (44, [(3, .inl b5), (2, .inl 0), (0, gx_r 383), (1, .inl e)], [.inl b5, .inl m9], t0, n, 0)) rfl (fun _ => rfl) rfl ?_
        refine gx_ishrw rfl rfl (fun z11 z11b => ?_)
        refine ex_go (S := (46, [(3, .inl b5), (2, .inl 0), (0, gx_r 383), (1, .inl e)], [.inl 1, .inl z11], t0, n, 0)) rfl (fun _ => rfl) rfl ?_
        refine gx_iand1 rfl (by first | decide | omega) rfl (fun z12 z12b => ?_)
        refine ex_go (S := (48, [(3, .inl b5), (2, .inl 0), (0, gx_r 383), (1, .inl e)], [.inl 1, .inl z12], t0, n, 0)) rfl (fun _ => rfl) rfl ?_
        by_cases hc13 : z12 ≠ 1
        · refine gx_2t (c := .ne) rfl (by first | decide | omega) (by first | decide | omega) hc13 rfl ?_
          refine ex_go (S := (56, [(3, .inl b5), (2, .inl 0), (0, gx_r 383), (1, .inl e)], [.inl 4294967295], t0, n, 0)) rfl (fun _ => rfl) rfl ?_
          refine ex_go (S := (57, [(3, .inl 4294967295), (2, .inl 0), (0, gx_r 383), (1, .inl e)], [], t0, n, 0)) rfl (fun _ => rfl) rfl ?_
          refine ex_go (S := (58, [(3, .inl 4294967295), (2, .inl 0), (0, gx_r 383), (1, .inl e)], [.inl 4294967295], t0, n, 0)) rfl (fun _ => rfl) rfl ?_
          refine ex_go (S := (61, [(3, .inl 4294967295), (2, .inl 0), (0, gx_r 383), (1, .inl e)], [], t0, n, 0)) rfl (fun _ => rfl) rfl ?_
          refine ex_go (S := (62, [(3, .inl 4294967295), (2, .inl 0), (0, gx_r 383), (1, .inl e)], [.inl 0], t0, n, 0)) rfl (fun _ => rfl) rfl ?_
          refine ex_go (S := (65, [(3, .inl 4294967295), (2, .inl 0), (0, gx_r 383), (1, .inl e)], [], t0, n, 0)) rfl (fun _ => rfl) rfl ?_
          refine ex_go (S := (66, [(3, .inl 4294967295), (2, .inl 0), (0, gx_r 383), (1, .inl e)], [gx_r 383], t0, n, 0)) rfl (fun _ => rfl) rfl ?_
          refine ex_go (S := (68, [(3, .inl 4294967295), (2, .inl 0), (0, gx_r 383), (1, .inl e)], [.inl 40, gx_r 383], t0, n, 0)) rfl (fun _ => rfl) rfl ?_
          obtain ⟨_, r16, b14, rfl, q15⟩ := pk_isSign (d + l + 6) n (s0) (w := 40)
          refine gx_call1 rfl rfl s0.1 rfl rfl r16 rfl ?_
          by_cases hc17 : b14 ≠ 0
          · refine gx_1t (c := .ne) rfl (by first | decide | omega) hc17 rfl ?_
            refine ex_go (S := (92, [(3, .inl 4294967295), (2, .inl 0), (0, gx_r 383), (1, .inl e)], [.inl e], t0, n, 0)) rfl (fun _ => rfl) rfl ?_
            refine ex_go (S := (93, [(3, .inl 4294967295), (2, .inl 0), (0, gx_r 383), (1, .inl e)], [.inl 5, .inl e], t0, n, 0)) rfl (fun _ => rfl) rfl ?_
            refine gx_2t (c := .ne) rfl (by first | decide | omega) (by first | decide | omega) (show e ≠ 5 from by omega) rfl ?_
            exact pk_takePart_t hT hA he d n s0 kc hca (by first | decide | omega) (Or.inr (Or.inr ⟨rfl, Or.inl (q15.2.mp (by first | decide | omega))⟩))
          · refine gx_1f (c := .ne) rfl (by first | decide | omega) hc17 rfl ?_
            refine ex_go (S := (75, [(3, .inl 4294967295), (2, .inl 0), (0, gx_r 383), (1, .inl e)], [gx_r 383], t0, n, 0)) rfl (fun _ => rfl) rfl ?_
            refine ex_go (S := (77, [(3, .inl 4294967295), (2, .inl 0), (0, gx_r 383), (1, .inl e)], [.inl 35, gx_r 383], t0, n, 0)) rfl (fun _ => rfl) rfl ?_
            obtain ⟨_, r20, b18, rfl, q19⟩ := pk_isWord (d + l + 6) n (s0) (w := 35) (by first | decide | omega)
            refine gx_call1 rfl rfl s0.1 rfl rfl r20 rfl ?_
            by_cases hc21 : b18 ≠ 0
            · refine gx_1t (c := .ne) rfl (by first | decide | omega) hc21 rfl ?_
              refine ex_go (S := (92, [(3, .inl 4294967295), (2, .inl 0), (0, gx_r 383), (1, .inl e)], [.inl e], t0, n, 0)) rfl (fun _ => rfl) rfl ?_
              refine ex_go (S := (93, [(3, .inl 4294967295), (2, .inl 0), (0, gx_r 383), (1, .inl e)], [.inl 5, .inl e], t0, n, 0)) rfl (fun _ => rfl) rfl ?_
              refine gx_2t (c := .ne) rfl (by first | decide | omega) (by first | decide | omega) (show e ≠ 5 from by omega) rfl ?_
              exact pk_takePart_t hT hA he d n s0 kc hca (by first | decide | omega) (Or.inr (Or.inr ⟨rfl, Or.inr (q19.2.mp (by first | decide | omega))⟩))
            · refine gx_1f (c := .ne) rfl (by first | decide | omega) hc21 rfl ?_
              refine ex_go (S := (84, [(3, .inl 4294967295), (2, .inl 0), (0, gx_r 383), (1, .inl e)], [gx_r 383], t0, n, 0)) rfl (fun _ => rfl) rfl ?_
              refine ex_go (S := (85, [(3, .inl 4294967295), (2, .inl 0), (0, gx_r 383), (1, .inl e)], [.inl 1, gx_r 383], t0, n, 0)) rfl (fun _ => rfl) rfl ?_
              obtain ⟨_, r122, t122, a122, f122, rfl, s122, e122, q122⟩ := pk_wrong (d + l + 6) n (s0) (w := 1) (by first | decide | omega)
              have b122 := s122.2.2.2
              refine gx_call0 rfl rfl s0.1 rfl rfl r122 rfl ?_
              have k23 : ai_hv t122 383 13 = some (.inl c) := (e122 383 13 (by first | decide | omega)).trans kc
              have k24 : ai_hv t122 385 a = some (.inl m2) := (e122 385 a (by first | decide | omega)).trans k3
              have k25 : ai_hv t122 383 21 = some (.inl m9) := (e122 383 21 (by first | decide | omega)).trans k10
              refine ex_go (S := (101, [(3, .inl 4294967295), (2, .inl 0), (0, gx_r 383), (1, .inl e)], [], t122, n, 0)) rfl (fun _ => rfl) rfl ?_
              refine ex_go (S := (102, [(3, .inl 4294967295), (2, .inl 0), (0, gx_r 383), (1, .inl e)], [gx_r 383], t122, n, 0)) rfl (fun _ => rfl) rfl ?_
              refine gx_get rfl s122.1 rfl s122.2.2.1 rfl ?_
              refine gx_1f (c := .le) rfl (by first | decide | omega) (show ¬ (f122 ≤ 0) from by omega) rfl ?_
              refine ex_ret (r := (none, t122, n, 0)) rfl (fun _ => rfl) ?_
              exact ⟨_, rfl, t122, a122, f122, c, rfl, px_X_fault kc (fun c i h => e122 c i (by first | decide | omega)) s122 (by first | decide | omega) (by first | decide | omega)⟩
        · refine gx_2f (c := .ne) rfl (by first | decide | omega) (by first | decide | omega) hc13 rfl ?_
          refine ex_go (S := (52, [(3, .inl b5), (2, .inl 0), (0, gx_r 383), (1, .inl e)], [.inl b5], t0, n, 0)) rfl (fun _ => rfl) rfl ?_
          refine ex_go (S := (56, [(3, .inl b5), (2, .inl 0), (0, gx_r 383), (1, .inl e)], [.inl b5], t0, n, 0)) rfl (fun _ => rfl) rfl ?_
          refine ex_go (S := (57, [(3, .inl b5), (2, .inl 0), (0, gx_r 383), (1, .inl e)], [], t0, n, 0)) rfl (fun _ => rfl) rfl ?_
          refine ex_go (S := (58, [(3, .inl b5), (2, .inl 0), (0, gx_r 383), (1, .inl e)], [.inl b5], t0, n, 0)) rfl (fun _ => rfl) rfl ?_
          by_cases hc26 : 0 ≤ b5
          · refine gx_1t (c := .ge) rfl (by first | decide | omega) hc26 rfl ?_
            refine ex_go (S := (92, [(3, .inl b5), (2, .inl 0), (0, gx_r 383), (1, .inl e)], [.inl e], t0, n, 0)) rfl (fun _ => rfl) rfl ?_
            refine ex_go (S := (93, [(3, .inl b5), (2, .inl 0), (0, gx_r 383), (1, .inl e)], [.inl 5, .inl e], t0, n, 0)) rfl (fun _ => rfl) rfl ?_
            refine gx_2t (c := .ne) rfl (by first | decide | omega) (by first | decide | omega) (show e ≠ 5 from by omega) rfl ?_
            exact pk_takePart_t hT hA he d n s0 kc hca (by first | decide | omega) (Or.inr (Or.inl ⟨rfl, by omega, by omega⟩))
          · refine gx_1f (c := .ge) rfl (by first | decide | omega) hc26 rfl ?_
            refine ex_go (S := (62, [(3, .inl b5), (2, .inl 0), (0, gx_r 383), (1, .inl e)], [.inl 0], t0, n, 0)) rfl (fun _ => rfl) rfl ?_
            refine ex_go (S := (65, [(3, .inl b5), (2, .inl 0), (0, gx_r 383), (1, .inl e)], [], t0, n, 0)) rfl (fun _ => rfl) rfl ?_
            refine ex_go (S := (66, [(3, .inl b5), (2, .inl 0), (0, gx_r 383), (1, .inl e)], [gx_r 383], t0, n, 0)) rfl (fun _ => rfl) rfl ?_
            refine ex_go (S := (68, [(3, .inl b5), (2, .inl 0), (0, gx_r 383), (1, .inl e)], [.inl 40, gx_r 383], t0, n, 0)) rfl (fun _ => rfl) rfl ?_
            obtain ⟨_, r29, b27, rfl, q28⟩ := pk_isSign (d + l + 6) n (s0) (w := 40)
            refine gx_call1 rfl rfl s0.1 rfl rfl r29 rfl ?_
            by_cases hc30 : b27 ≠ 0
            · refine gx_1t (c := .ne) rfl (by first | decide | omega) hc30 rfl ?_
              refine ex_go (S := (92, [(3, .inl b5), (2, .inl 0), (0, gx_r 383), (1, .inl e)], [.inl e], t0, n, 0)) rfl (fun _ => rfl) rfl ?_
              refine ex_go (S := (93, [(3, .inl b5), (2, .inl 0), (0, gx_r 383), (1, .inl e)], [.inl 5, .inl e], t0, n, 0)) rfl (fun _ => rfl) rfl ?_
              refine gx_2t (c := .ne) rfl (by first | decide | omega) (by first | decide | omega) (show e ≠ 5 from by omega) rfl ?_
              exact pk_takePart_t hT hA he d n s0 kc hca (by first | decide | omega) (Or.inr (Or.inl ⟨rfl, by omega, by omega⟩))
            · refine gx_1f (c := .ne) rfl (by first | decide | omega) hc30 rfl ?_
              refine ex_go (S := (75, [(3, .inl b5), (2, .inl 0), (0, gx_r 383), (1, .inl e)], [gx_r 383], t0, n, 0)) rfl (fun _ => rfl) rfl ?_
              refine ex_go (S := (77, [(3, .inl b5), (2, .inl 0), (0, gx_r 383), (1, .inl e)], [.inl 35, gx_r 383], t0, n, 0)) rfl (fun _ => rfl) rfl ?_
              obtain ⟨_, r33, b31, rfl, q32⟩ := pk_isWord (d + l + 6) n (s0) (w := 35) (by first | decide | omega)
              refine gx_call1 rfl rfl s0.1 rfl rfl r33 rfl ?_
              by_cases hc34 : b31 ≠ 0
              · refine gx_1t (c := .ne) rfl (by first | decide | omega) hc34 rfl ?_
                refine ex_go (S := (92, [(3, .inl b5), (2, .inl 0), (0, gx_r 383), (1, .inl e)], [.inl e], t0, n, 0)) rfl (fun _ => rfl) rfl ?_
                refine ex_go (S := (93, [(3, .inl b5), (2, .inl 0), (0, gx_r 383), (1, .inl e)], [.inl 5, .inl e], t0, n, 0)) rfl (fun _ => rfl) rfl ?_
                refine gx_2t (c := .ne) rfl (by first | decide | omega) (by first | decide | omega) (show e ≠ 5 from by omega) rfl ?_
                exact pk_takePart_t hT hA he d n s0 kc hca (by first | decide | omega) (Or.inr (Or.inl ⟨rfl, by omega, by omega⟩))
              · refine gx_1f (c := .ne) rfl (by first | decide | omega) hc34 rfl ?_
                refine ex_go (S := (84, [(3, .inl b5), (2, .inl 0), (0, gx_r 383), (1, .inl e)], [gx_r 383], t0, n, 0)) rfl (fun _ => rfl) rfl ?_
                refine ex_go (S := (85, [(3, .inl b5), (2, .inl 0), (0, gx_r 383), (1, .inl e)], [.inl 1, gx_r 383], t0, n, 0)) rfl (fun _ => rfl) rfl ?_
                obtain ⟨_, r135, t135, a135, f135, rfl, s135, e135, q135⟩ := pk_wrong (d + l + 6) n (s0) (w := 1) (by first | decide | omega)
                have b135 := s135.2.2.2
                refine gx_call0 rfl rfl s0.1 rfl rfl r135 rfl ?_
                have k36 : ai_hv t135 383 13 = some (.inl c) := (e135 383 13 (by first | decide | omega)).trans kc
                have k37 : ai_hv t135 385 a = some (.inl m2) := (e135 385 a (by first | decide | omega)).trans k3
                have k38 : ai_hv t135 383 21 = some (.inl m9) := (e135 383 21 (by first | decide | omega)).trans k10
                refine ex_go (S := (101, [(3, .inl b5), (2, .inl 0), (0, gx_r 383), (1, .inl e)], [], t135, n, 0)) rfl (fun _ => rfl) rfl ?_
                refine ex_go (S := (102, [(3, .inl b5), (2, .inl 0), (0, gx_r 383), (1, .inl e)], [gx_r 383], t135, n, 0)) rfl (fun _ => rfl) rfl ?_
                refine gx_get rfl s135.1 rfl s135.2.2.1 rfl ?_
                refine gx_1f (c := .le) rfl (by first | decide | omega) (show ¬ (f135 ≤ 0) from by omega) rfl ?_
                refine ex_ret (r := (none, t135, n, 0)) rfl (fun _ => rfl) ?_
                exact ⟨_, rfl, t135, a135, f135, c, rfl, px_X_fault kc (fun c i h => e135 c i (by first | decide | omega)) s135 (by first | decide | omega) (by first | decide | omega)⟩
      · subst hn8
        refine ex_go (S := (55, [(3, .inl 4294967295), (2, .inl 0), (0, gx_r 383), (1, .inl e)], [], t0, n, 0)) rfl (fun _ => rfl) rfl ?_
        refine ex_go (S := (56, [(3, .inl 4294967295), (2, .inl 0), (0, gx_r 383), (1, .inl e)], [.inl 4294967295], t0, n, 0)) rfl (fun _ => rfl) rfl ?_
        refine ex_go (S := (57, [(3, .inl 4294967295), (2, .inl 0), (0, gx_r 383), (1, .inl e)], [], t0, n, 0)) rfl (fun _ => rfl) rfl ?_
        refine ex_go (S := (58, [(3, .inl 4294967295), (2, .inl 0), (0, gx_r 383), (1, .inl e)], [.inl 4294967295], t0, n, 0)) rfl (fun _ => rfl) rfl ?_
        refine ex_go (S := (61, [(3, .inl 4294967295), (2, .inl 0), (0, gx_r 383), (1, .inl e)], [], t0, n, 0)) rfl (fun _ => rfl) rfl ?_
        refine ex_go (S := (62, [(3, .inl 4294967295), (2, .inl 0), (0, gx_r 383), (1, .inl e)], [.inl 0], t0, n, 0)) rfl (fun _ => rfl) rfl ?_
        refine ex_go (S := (65, [(3, .inl 4294967295), (2, .inl 0), (0, gx_r 383), (1, .inl e)], [], t0, n, 0)) rfl (fun _ => rfl) rfl ?_
        refine ex_go (S := (66, [(3, .inl 4294967295), (2, .inl 0), (0, gx_r 383), (1, .inl e)], [gx_r 383], t0, n, 0)) rfl (fun _ => rfl) rfl ?_
        refine ex_go (S := (68, [(3, .inl 4294967295), (2, .inl 0), (0, gx_r 383), (1, .inl e)], [.inl 40, gx_r 383], t0, n, 0)) rfl (fun _ => rfl) rfl ?_
        obtain ⟨_, r41, b39, rfl, q40⟩ := pk_isSign (d + l + 6) n (s0) (w := 40)
        refine gx_call1 rfl rfl s0.1 rfl rfl r41 rfl ?_
        by_cases hc42 : b39 ≠ 0
        · refine gx_1t (c := .ne) rfl (by first | decide | omega) hc42 rfl ?_
          refine ex_go (S := (92, [(3, .inl 4294967295), (2, .inl 0), (0, gx_r 383), (1, .inl e)], [.inl e], t0, n, 0)) rfl (fun _ => rfl) rfl ?_
          refine ex_go (S := (93, [(3, .inl 4294967295), (2, .inl 0), (0, gx_r 383), (1, .inl e)], [.inl 5, .inl e], t0, n, 0)) rfl (fun _ => rfl) rfl ?_
          refine gx_2t (c := .ne) rfl (by first | decide | omega) (by first | decide | omega) (show e ≠ 5 from by omega) rfl ?_
          exact pk_takePart_t hT hA he d n s0 kc hca (by first | decide | omega) (Or.inr (Or.inr ⟨rfl, Or.inl (q40.2.mp (by first | decide | omega))⟩))
        · refine gx_1f (c := .ne) rfl (by first | decide | omega) hc42 rfl ?_
          refine ex_go (S := (75, [(3, .inl 4294967295), (2, .inl 0), (0, gx_r 383), (1, .inl e)], [gx_r 383], t0, n, 0)) rfl (fun _ => rfl) rfl ?_
          refine ex_go (S := (77, [(3, .inl 4294967295), (2, .inl 0), (0, gx_r 383), (1, .inl e)], [.inl 35, gx_r 383], t0, n, 0)) rfl (fun _ => rfl) rfl ?_
          obtain ⟨_, r45, b43, rfl, q44⟩ := pk_isWord (d + l + 6) n (s0) (w := 35) (by first | decide | omega)
          refine gx_call1 rfl rfl s0.1 rfl rfl r45 rfl ?_
          by_cases hc46 : b43 ≠ 0
          · refine gx_1t (c := .ne) rfl (by first | decide | omega) hc46 rfl ?_
            refine ex_go (S := (92, [(3, .inl 4294967295), (2, .inl 0), (0, gx_r 383), (1, .inl e)], [.inl e], t0, n, 0)) rfl (fun _ => rfl) rfl ?_
            refine ex_go (S := (93, [(3, .inl 4294967295), (2, .inl 0), (0, gx_r 383), (1, .inl e)], [.inl 5, .inl e], t0, n, 0)) rfl (fun _ => rfl) rfl ?_
            refine gx_2t (c := .ne) rfl (by first | decide | omega) (by first | decide | omega) (show e ≠ 5 from by omega) rfl ?_
            exact pk_takePart_t hT hA he d n s0 kc hca (by first | decide | omega) (Or.inr (Or.inr ⟨rfl, Or.inr (q44.2.mp (by first | decide | omega))⟩))
          · refine gx_1f (c := .ne) rfl (by first | decide | omega) hc46 rfl ?_
            refine ex_go (S := (84, [(3, .inl 4294967295), (2, .inl 0), (0, gx_r 383), (1, .inl e)], [gx_r 383], t0, n, 0)) rfl (fun _ => rfl) rfl ?_
            refine ex_go (S := (85, [(3, .inl 4294967295), (2, .inl 0), (0, gx_r 383), (1, .inl e)], [.inl 1, gx_r 383], t0, n, 0)) rfl (fun _ => rfl) rfl ?_
            obtain ⟨_, r147, t147, a147, f147, rfl, s147, e147, q147⟩ := pk_wrong (d + l + 6) n (s0) (w := 1) (by first | decide | omega)
            have b147 := s147.2.2.2
            refine gx_call0 rfl rfl s0.1 rfl rfl r147 rfl ?_
            have k48 : ai_hv t147 383 13 = some (.inl c) := (e147 383 13 (by first | decide | omega)).trans kc
            have k49 : ai_hv t147 385 a = some (.inl m2) := (e147 385 a (by first | decide | omega)).trans k3
            refine ex_go (S := (101, [(3, .inl 4294967295), (2, .inl 0), (0, gx_r 383), (1, .inl e)], [], t147, n, 0)) rfl (fun _ => rfl) rfl ?_
            refine ex_go (S := (102, [(3, .inl 4294967295), (2, .inl 0), (0, gx_r 383), (1, .inl e)], [gx_r 383], t147, n, 0)) rfl (fun _ => rfl) rfl ?_
            refine gx_get rfl s147.1 rfl s147.2.2.1 rfl ?_
            refine gx_1f (c := .le) rfl (by first | decide | omega) (show ¬ (f147 ≤ 0) from by omega) rfl ?_
            refine ex_ret (r := (none, t147, n, 0)) rfl (fun _ => rfl) ?_
            exact ⟨_, rfl, t147, a147, f147, c, rfl, px_X_fault kc (fun c i h => e147 c i (by first | decide | omega)) s147 (by first | decide | omega) (by first | decide | omega)⟩
    · refine gx_2f (c := .ne) rfl (by first | decide | omega) (by first | decide | omega) hc4 rfl ?_
      refine ex_go (S := (22, [(0, gx_r 383), (1, .inl e)], [.inl 1], t0, n, 0)) rfl (fun _ => rfl) rfl ?_
      refine ex_go (S := (26, [(0, gx_r 383), (1, .inl e)], [.inl 1], t0, n, 0)) rfl (fun _ => rfl) rfl ?_
      refine ex_go (S := (27, [(2, .inl 1), (0, gx_r 383), (1, .inl e)], [], t0, n, 0)) rfl (fun _ => rfl) rfl ?_
      refine ex_go (S := (28, [(2, .inl 1), (0, gx_r 383), (1, .inl e)], [gx_r 383], t0, n, 0)) rfl (fun _ => rfl) rfl ?_
      refine ex_go (S := (30, [(2, .inl 1), (0, gx_r 383), (1, .inl e)], [.inl 38, gx_r 383], t0, n, 0)) rfl (fun _ => rfl) rfl ?_
      refine ex_go (S := (31, [(2, .inl 1), (0, gx_r 383), (1, .inl e)], [.inl 4, .inl 38, gx_r 383], t0, n, 0)) rfl (fun _ => rfl) rfl ?_
      obtain ⟨_, r52, b50, rfl, q51⟩ := pk_wordHere (d + l + 5) n (s0) (w := 38) (m := 4) (by first | decide | omega)
      refine gx_call1 rfl rfl s0.1 rfl rfl r52 rfl ?_
      refine ex_go (S := (35, [(3, .inl b50), (2, .inl 1), (0, gx_r 383), (1, .inl e)], [], t0, n, 0)) rfl (fun _ => rfl) rfl ?_
      refine ex_go (S := (36, [(3, .inl b50), (2, .inl 1), (0, gx_r 383), (1, .inl e)], [.inl b50], t0, n, 0)) rfl (fun _ => rfl) rfl ?_
      rcases q51 with hn53 | hn53
      · have := hn53
        refine gx_1f (c := .lt) rfl (by first | decide | omega) (show ¬ (b50 < 0) from by omega) rfl ?_
        refine ex_go (S := (40, [(3, .inl b50), (2, .inl 1), (0, gx_r 383), (1, .inl e)], [gx_r 383], t0, n, 0)) rfl (fun _ => rfl) rfl ?_
        obtain ⟨m54, k55, m54l, m54h⟩ := gx_in (c := 383) (i := 21) (lo := 0) (hi := 8) s0.1 rfl rfl rfl rfl
        refine gx_get rfl s0.1 rfl k55 rfl ?_
        refine ex_go (S := (44, [(3, .inl b50), (2, .inl 1), (0, gx_r 383), (1, .inl e)], [.inl b50, .inl m54], t0, n, 0)) rfl (fun _ => rfl) rfl ?_
        refine gx_ishrw rfl rfl (fun z56 z56b => ?_)
        refine ex_go (S := (46, [(3, .inl b50), (2, .inl 1), (0, gx_r 383), (1, .inl e)], [.inl 1, .inl z56], t0, n, 0)) rfl (fun _ => rfl) rfl ?_
        refine gx_iand1 rfl (by first | decide | omega) rfl (fun z57 z57b => ?_)
        refine ex_go (S := (48, [(3, .inl b50), (2, .inl 1), (0, gx_r 383), (1, .inl e)], [.inl 1, .inl z57], t0, n, 0)) rfl (fun _ => rfl) rfl ?_
        by_cases hc58 : z57 ≠ 1
        · refine gx_2t (c := .ne) rfl (by first | decide | omega) (by first | decide | omega) hc58 rfl ?_
          refine ex_go (S := (56, [(3, .inl b50), (2, .inl 1), (0, gx_r 383), (1, .inl e)], [.inl 4294967295], t0, n, 0)) rfl (fun _ => rfl) rfl ?_
          refine ex_go (S := (57, [(3, .inl 4294967295), (2, .inl 1), (0, gx_r 383), (1, .inl e)], [], t0, n, 0)) rfl (fun _ => rfl) rfl ?_
          refine ex_go (S := (58, [(3, .inl 4294967295), (2, .inl 1), (0, gx_r 383), (1, .inl e)], [.inl 4294967295], t0, n, 0)) rfl (fun _ => rfl) rfl ?_
          refine ex_go (S := (61, [(3, .inl 4294967295), (2, .inl 1), (0, gx_r 383), (1, .inl e)], [], t0, n, 0)) rfl (fun _ => rfl) rfl ?_
          refine ex_go (S := (62, [(3, .inl 4294967295), (2, .inl 1), (0, gx_r 383), (1, .inl e)], [.inl 1], t0, n, 0)) rfl (fun _ => rfl) rfl ?_
          refine ex_go (S := (91, [(3, .inl 4294967295), (2, .inl 1), (0, gx_r 383), (1, .inl e)], [], t0, n, 0)) rfl (fun _ => rfl) rfl ?_
          refine ex_go (S := (92, [(3, .inl 4294967295), (2, .inl 1), (0, gx_r 383), (1, .inl e)], [.inl e], t0, n, 0)) rfl (fun _ => rfl) rfl ?_
          refine ex_go (S := (93, [(3, .inl 4294967295), (2, .inl 1), (0, gx_r 383), (1, .inl e)], [.inl 5, .inl e], t0, n, 0)) rfl (fun _ => rfl) rfl ?_
          refine gx_2t (c := .ne) rfl (by first | decide | omega) (by first | decide | omega) (show e ≠ 5 from by omega) rfl ?_
          exact pk_takePart_t hT hA he d n s0 kc hca (by first | decide | omega) (Or.inl ⟨rfl, by omega⟩)
        · refine gx_2f (c := .ne) rfl (by first | decide | omega) (by first | decide | omega) hc58 rfl ?_
          refine ex_go (S := (52, [(3, .inl b50), (2, .inl 1), (0, gx_r 383), (1, .inl e)], [.inl b50], t0, n, 0)) rfl (fun _ => rfl) rfl ?_
          refine ex_go (S := (56, [(3, .inl b50), (2, .inl 1), (0, gx_r 383), (1, .inl e)], [.inl b50], t0, n, 0)) rfl (fun _ => rfl) rfl ?_
          refine ex_go (S := (57, [(3, .inl b50), (2, .inl 1), (0, gx_r 383), (1, .inl e)], [], t0, n, 0)) rfl (fun _ => rfl) rfl ?_
          refine ex_go (S := (58, [(3, .inl b50), (2, .inl 1), (0, gx_r 383), (1, .inl e)], [.inl b50], t0, n, 0)) rfl (fun _ => rfl) rfl ?_
          by_cases hc59 : 0 ≤ b50
          · refine gx_1t (c := .ge) rfl (by first | decide | omega) hc59 rfl ?_
            refine ex_go (S := (92, [(3, .inl b50), (2, .inl 1), (0, gx_r 383), (1, .inl e)], [.inl e], t0, n, 0)) rfl (fun _ => rfl) rfl ?_
            refine ex_go (S := (93, [(3, .inl b50), (2, .inl 1), (0, gx_r 383), (1, .inl e)], [.inl 5, .inl e], t0, n, 0)) rfl (fun _ => rfl) rfl ?_
            refine gx_2t (c := .ne) rfl (by first | decide | omega) (by first | decide | omega) (show e ≠ 5 from by omega) rfl ?_
            exact pk_takePart_t hT hA he d n s0 kc hca (by first | decide | omega) (Or.inl ⟨rfl, by omega⟩)
          · refine gx_1f (c := .ge) rfl (by first | decide | omega) hc59 rfl ?_
            refine ex_go (S := (62, [(3, .inl b50), (2, .inl 1), (0, gx_r 383), (1, .inl e)], [.inl 1], t0, n, 0)) rfl (fun _ => rfl) rfl ?_
            refine ex_go (S := (91, [(3, .inl b50), (2, .inl 1), (0, gx_r 383), (1, .inl e)], [], t0, n, 0)) rfl (fun _ => rfl) rfl ?_
            refine ex_go (S := (92, [(3, .inl b50), (2, .inl 1), (0, gx_r 383), (1, .inl e)], [.inl e], t0, n, 0)) rfl (fun _ => rfl) rfl ?_
            refine ex_go (S := (93, [(3, .inl b50), (2, .inl 1), (0, gx_r 383), (1, .inl e)], [.inl 5, .inl e], t0, n, 0)) rfl (fun _ => rfl) rfl ?_
            refine gx_2t (c := .ne) rfl (by first | decide | omega) (by first | decide | omega) (show e ≠ 5 from by omega) rfl ?_
            exact pk_takePart_t hT hA he d n s0 kc hca (by first | decide | omega) (Or.inl ⟨rfl, by omega⟩)
      · subst hn53
        refine ex_go (S := (55, [(3, .inl 4294967295), (2, .inl 1), (0, gx_r 383), (1, .inl e)], [], t0, n, 0)) rfl (fun _ => rfl) rfl ?_
        refine ex_go (S := (56, [(3, .inl 4294967295), (2, .inl 1), (0, gx_r 383), (1, .inl e)], [.inl 4294967295], t0, n, 0)) rfl (fun _ => rfl) rfl ?_
        refine ex_go (S := (57, [(3, .inl 4294967295), (2, .inl 1), (0, gx_r 383), (1, .inl e)], [], t0, n, 0)) rfl (fun _ => rfl) rfl ?_
        refine ex_go (S := (58, [(3, .inl 4294967295), (2, .inl 1), (0, gx_r 383), (1, .inl e)], [.inl 4294967295], t0, n, 0)) rfl (fun _ => rfl) rfl ?_
        refine ex_go (S := (61, [(3, .inl 4294967295), (2, .inl 1), (0, gx_r 383), (1, .inl e)], [], t0, n, 0)) rfl (fun _ => rfl) rfl ?_
        refine ex_go (S := (62, [(3, .inl 4294967295), (2, .inl 1), (0, gx_r 383), (1, .inl e)], [.inl 1], t0, n, 0)) rfl (fun _ => rfl) rfl ?_
        refine ex_go (S := (91, [(3, .inl 4294967295), (2, .inl 1), (0, gx_r 383), (1, .inl e)], [], t0, n, 0)) rfl (fun _ => rfl) rfl ?_
        refine ex_go (S := (92, [(3, .inl 4294967295), (2, .inl 1), (0, gx_r 383), (1, .inl e)], [.inl e], t0, n, 0)) rfl (fun _ => rfl) rfl ?_
        refine ex_go (S := (93, [(3, .inl 4294967295), (2, .inl 1), (0, gx_r 383), (1, .inl e)], [.inl 5, .inl e], t0, n, 0)) rfl (fun _ => rfl) rfl ?_
        refine gx_2t (c := .ne) rfl (by first | decide | omega) (by first | decide | omega) (show e ≠ 5 from by omega) rfl ?_
        exact pk_takePart_t hT hA he d n s0 kc hca (by first | decide | omega) (Or.inl ⟨rfl, by omega⟩)
  · refine gx_1f (c := .le) rfl (by first | decide | omega) hc1 rfl ?_
    refine ex_ret (r := (none, t0, n, 0)) rfl (fun _ => rfl) ?_
    exact ⟨_, rfl, t0, a, f, c, rfl, px_X_fault kc (fun _ _ _ => rfl) s0 (by first | decide | omega) (by first | decide | omega)⟩
theorem pk_laws : ∀ j e, e + j = 5 → (∀ d, px_C (d + 5 * j + 3) 288 e) ∧ (∀ d, px_C (d + 5 * j + 7) 247 e) := by
  intro j
  induction j with
  | zero =>
    intro e he
    have e5 : e = 5 := by omega
    subst e5
    have h1 : ∀ d, px_C (d + 0 + 3) 288 5 := fun d => pk_takePart5 d
    exact ⟨h1, pk_all (l := 0) (pk_test (l := 0) (pk_sums (l := 0) (pk_products (l := 0) h1 (by first | decide | omega)) (by first | decide | omega)) (by first | decide | omega)) (by first | decide | omega)⟩
  | succ j ih =>
    intro e he
    obtain ⟨hT, hA⟩ := ih (e + 1) (by first | decide | omega)
    have h1 : ∀ d, px_C (d + 5 * (j + 1) + 3) 288 e := fun d => pk_takePart (l := 5 * j) hT hA (by first | decide | omega) d
    exact ⟨h1, pk_all (l := 5 * (j + 1)) (pk_test (l := 5 * (j + 1)) (pk_sums (l := 5 * (j + 1)) (pk_products (l := 5 * (j + 1)) h1 (by first | decide | omega)) (by first | decide | omega)) (by first | decide | omega)) (by first | decide | omega)⟩
theorem pk_all0 (d : Nat) : px_C (d + 32) 247 0 := (pk_laws 5 0 rfl).2 d
end PK4
