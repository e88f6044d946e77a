section SPQ
theorem RLw_up {t t' : en_H} {σ : Nat → Nat → Nat} {k c : Nat} (h : RLw t σ) (e : ∀ l, l < 3 → l ≠ k → ai_hv t' 389 (169 + l) = ai_hv t 389 (169 + l)) (h1 : ai_hv t' 389 (169 + k) = some (.inl c)) (hc : c ≤ 1100) : RLw t' (up σ 9 k 1) := fun l hl => by
  by_cases e1 : l = k
  · subst e1
    have e2 : up σ 9 l 1 9 l = 1 := by
      show (bif Nat.beq 9 9 && Nat.beq l l then 1 else σ 9 l) = 1
      rw [bq_t l]; rfl
    exact Or.inr ⟨e2, c, h1, hc⟩
  · have e2 : up σ 9 k 1 9 l = σ 9 l := by
      show (bif Nat.beq 9 9 && Nat.beq l k then 1 else σ 9 l) = σ 9 l
      rw [bq_f e1]; rfl
    rw [e2]
    rcases h l hl with ⟨z1, z2⟩ | ⟨z1, z, z2, z3⟩
    · exact Or.inl ⟨z1, (e l hl e1).trans z2⟩
    · exact Or.inr ⟨z1, z, (e l hl e1).trans z2, z3⟩
theorem RA_F {t t' : en_H} {S : Nat → Nat} {m : Nat} {σ : Nat → Nat → Nat} (h : RA t S m σ) (e : px_F t t') : RA t' S m σ := by
  obtain ⟨⟨k0, k1, k2, k3, k4, k5, k6, k7, k8, k9⟩, hRL, hRk, hRl, hRs, hRN⟩ := h
  refine ⟨⟨(e _ _ (by omega)).trans k0, (e _ _ (by omega)).trans k1, (e _ _ (by omega)).trans k2, (e _ _ (by omega)).trans k3, (e _ _ (by omega)).trans k4, (e _ _ (by omega)).trans k5, (e _ _ (by omega)).trans k6, (e _ _ (by omega)).trans k7, (e _ _ (by omega)).trans k8, (e _ _ (by omega)).trans k9⟩, fun k hk => ?_, rows_keep hRk (fun i hi => e _ _ (by omega)), rows_keep hRl (fun i hi => e _ _ (by omega)), rows_keep hRs (fun i hi => e _ _ (by omega)), fun k hk => ⟨(e _ _ (by omega)).trans (hRN k hk).1, (e _ _ (by omega)).trans (hRN k hk).2⟩⟩
  rcases hRL k hk with ⟨z1, z2⟩ | ⟨z1, z, z2, z3⟩
  · exact Or.inl ⟨z1, (e _ _ (by omega)).trans z2⟩
  · exact Or.inr ⟨z1, z, (e _ _ (by omega)).trans z2, z3⟩
theorem sp_kt_0 {S : Nat → Nat} {m N a : Nat} (h : sp_kt S m N a = 0) : N ≤ a := by
  unfold sp_kt at h
  by_cases c : a < N
  · rw [if_pos c] at h
    have := sp_ty_le S m (sp_st S m a)
    omega
  · omega
theorem pe_readOnce (d n : Nat) {t0 : en_H} {a c : Nat} {S : Nat → Nat} {m N : Nat} {σ : Nat → Nat → Nat} (s0 : px_S t0 a 0) (hT : rT t0 S m N) (ha : a < N) (hA : RA t0 S m σ) (hB : WB σ) (hK : NK S m N σ) (kc : ai_hv t0 383 13 = some (.inl c)) (hca : c ≤ a) (hno : ∀ w, w = 1 ∨ w = 2 ∨ w = 4 ∨ w = 8 ∨ w = 12 ∨ w = 15 ∨ w = 17 → ¬ sp_wd S m N a w) : ∃ r, en_u (d + 33) 193 [gx_r 383] t0 n = some r ∧ ∃ t' a' f', r = (none, t', n, 0) ∧ px_S t' a' f' ∧ rT t' S m N ∧ ∃ τ, Ln S m N σ a (a', f') τ ∧ a' ≤ N ∧ (f' = 0 → a < a' ∧ RA t' S m τ) := by
  have b0 := s0.2.2.2
  have hN := hT.2.2.2.2.1
  obtain ⟨⟨kk0, kk1, kk2, kk3, kk4, kk5, kk6, kk7, kk8, kk9⟩, hRL, hRk, hRl, hRs, hRN⟩ := hA
  have hBB := hB.1
  refine en_u_ex (d := d + 32) rfl ?_
  show en_ex _ _ _ _ (0, [(0, gx_r 383)], [], t0, n, 0) _
  refine ex_go (S := (1, [(0, gx_r 383)], [gx_r 383], t0, n, 0)) rfl (fun _ => rfl) rfl ?_
  refine ex_go (S := (3, [(0, gx_r 383)], [.inl 11, gx_r 383], t0, n, 0)) rfl (fun _ => rfl) rfl ?_
  obtain ⟨_, r3, b1, rfl, q2⟩ := pe_isWord (d + 31) n (s0) hT (by omega) (w := 11) (by omega)
  refine gx_call1 rfl rfl s0.1 rfl rfl r3 rfl ?_
  by_cases hc4 : b1 = 0
  · refine gx_1t (c := .eq) rfl (by omega) hc4 rfl ?_
    refine ex_go (S := (14, [(0, gx_r 383)], [gx_r 383], t0, n, 0)) rfl (fun _ => rfl) rfl ?_
    refine ex_go (S := (16, [(0, gx_r 383)], [.inl 20, gx_r 383], t0, n, 0)) rfl (fun _ => rfl) rfl ?_
    refine ex_go (S := (17, [(0, gx_r 383)], [.inl 3, .inl 20, gx_r 383], t0, n, 0)) rfl (fun _ => rfl) rfl ?_
    obtain ⟨_, r7, b5, rfl, q6⟩ := pe_wordHere (d + 30) n (s0) hT (by omega) (w := 20) (mm := 3) (by omega)
    refine gx_call1 rfl rfl s0.1 rfl rfl r7 rfl ?_
    rcases q6 with ⟨hwa, hwb, hwc⟩ | ⟨hwa, hwb⟩
    · refine ex_go (S := (21, [(1, .inl b5), (0, gx_r 383)], [], t0, n, 0)) rfl (fun _ => rfl) rfl ?_
      rcases (show b5 = 0 ∨ b5 = 1 ∨ b5 = 2 by omega) with e9 | e9 | e9
      · subst e9
        refine ex_go (S := (22, [(1, .inl 0), (0, gx_r 383)], [.inl 0], t0, n, 0)) rfl (fun _ => rfl) rfl ?_
        refine ex_go (S := (33, [(1, .inl 0), (0, gx_r 383)], [], t0, n, 0)) rfl (fun _ => rfl) rfl ?_
        refine ex_go (S := (34, [(1, .inl 0), (0, gx_r 383)], [.inl 0], t0, n, 0)) rfl (fun _ => rfl) rfl ?_
        refine ex_go (S := (35, [(1, .inl 0), (0, gx_r 383)], [.inl 3, .inl 0], t0, n, 0)) rfl (fun _ => rfl) rfl ?_
        refine ex_go (S := (48, [(1, .inl 0), (0, gx_r 383)], [], t0, n, 0)) rfl (fun _ => rfl) rfl ?_
        refine ex_go (S := (49, [(1, .inl 0), (0, gx_r 383)], [gx_r 383], t0, n, 0)) rfl (fun _ => rfl) rfl ?_
        refine gx_ref (c := 389) rfl s0.1 rfl rfl rfl rfl ?_
        refine ex_go (S := (55, [(1, .inl 0), (0, gx_r 383)], [.inl 169, gx_r 389], t0, n, 0)) rfl (fun _ => rfl) rfl ?_
        refine ex_go (S := (56, [(1, .inl 0), (0, gx_r 383)], [.inl 0, .inl 169, gx_r 389], t0, n, 0)) rfl (fun _ => rfl) rfl ?_
        refine ex_go (S := (57, [(1, .inl 0), (0, gx_r 383)], [.inl 169, gx_r 389], t0, n, 0)) rfl (fun _ => rfl) rfl ?_
        rcases hRL 0 (by omega) with ⟨hz1, hz2⟩ | ⟨hz1, sv, hz2, hz3⟩
        · have hz4 : ai_hv t0 389 169 = some (.inl 4294967295) := (rfl).trans hz2
          refine gx_ag (v := .inl 4294967295) (cb := fun c => Nat.beq c 0) rfl (fun _ => rfl) s0.1 rfl rfl hz4 (by omega) rfl ?_
          refine ex_go (S := (66, [(1, .inl 0), (0, gx_r 383)], [], t0, n, 0)) rfl (fun _ => rfl) rfl ?_
          refine ex_go (S := (67, [(1, .inl 0), (0, gx_r 383)], [gx_r 383], t0, n, 0)) rfl (fun _ => rfl) rfl ?_
          refine gx_get rfl s0.1 rfl s0.2.2.1 rfl ?_
          refine ex_go (S := (74, [(1, .inl 0), (0, gx_r 383)], [], t0, n, 0)) rfl (fun _ => rfl) rfl ?_
          refine ex_go (S := (75, [(1, .inl 0), (0, gx_r 383)], [gx_r 383], t0, n, 0)) rfl (fun _ => rfl) rfl ?_
          refine ex_go (S := (76, [(1, .inl 0), (0, gx_r 383)], [gx_r 383, gx_r 383], t0, n, 0)) rfl (fun _ => rfl) rfl ?_
          refine gx_get rfl s0.1 rfl s0.2.1 rfl ?_
          refine ex_go (S := (80, [(1, .inl 0), (0, gx_r 383)], [.inl 1, .inl a, gx_r 383], t0, n, 0)) rfl (fun _ => rfl) rfl ?_
          refine ex_iadd rfl (by omega) rfl ?_
          refine gx_put rfl s0.1 rfl rfl (ai_in_h (by omega) (by omega) (by omega)) rfl (fun t108 g108 k108 e108 => ?_)
          have k9 : ai_hv t108 389 160 = some (.inl (σ 0 0)) := (e108 389 160 (by omega)).trans kk0
          have k10 : ai_hv t108 389 161 = some (.inl (σ 1 0)) := (e108 389 161 (by omega)).trans kk1
          have k11 : ai_hv t108 389 162 = some (.inl (σ 2 0)) := (e108 389 162 (by omega)).trans kk2
          have k12 : ai_hv t108 389 163 = some (.inl (σ 3 0)) := (e108 389 163 (by omega)).trans kk3
          have k13 : ai_hv t108 389 164 = some (.inl (σ 4 0)) := (e108 389 164 (by omega)).trans kk4
          have k14 : ai_hv t108 389 166 = some (.inl (σ 5 0)) := (e108 389 166 (by omega)).trans kk5
          have k15 : ai_hv t108 389 167 = some (.inl (σ 6 0)) := (e108 389 167 (by omega)).trans kk6
          have k16 : ai_hv t108 389 168 = some (.inl (σ 7 0)) := (e108 389 168 (by omega)).trans kk7
          have k17 : ai_hv t108 383 20 = some (.inl (σ 8 0)) := (e108 383 20 (by omega)).trans kk8
          have k18 : ai_hv t108 383 19 = some (.inl (σ 15 0)) := (e108 383 19 (by omega)).trans kk9
          have k19 : ai_hv t108 383 13 = some (.inl c) := (e108 383 13 (by omega)).trans kc
          have k20 : ai_hv t108 389 169 = some (.inl 4294967295) := (e108 389 169 (by omega)).trans hz4
          have s108 : px_S t108 (a + 1) 0 := ⟨g108, k108, (e108 383 8 (by omega)).trans s0.2.2.1, by omega, s0.2.2.2.2⟩
          refine ex_go (S := (85, [(1, .inl 0), (0, gx_r 383)], [.inl 0], t108, n, 0)) rfl (fun _ => rfl) rfl ?_
          refine ex_go (S := (86, [(1, .inl 0), (0, gx_r 383)], [.inl 3, .inl 0], t108, n, 0)) rfl (fun _ => rfl) rfl ?_
          refine ex_go (S := (111, [(1, .inl 0), (0, gx_r 383)], [], t108, n, 0)) rfl (fun _ => rfl) rfl ?_
          refine ex_go (S := (112, [(1, .inl 0), (0, gx_r 383)], [gx_r 383], t108, n, 0)) rfl (fun _ => rfl) rfl ?_
          refine gx_ref (c := 389) rfl s108.1 rfl rfl rfl rfl ?_
          refine ex_go (S := (118, [(1, .inl 0), (0, gx_r 383)], [.inl 169, gx_r 389], t108, n, 0)) rfl (fun _ => rfl) rfl ?_
          refine ex_go (S := (119, [(1, .inl 0), (0, gx_r 383)], [.inl 0, .inl 169, gx_r 389], t108, n, 0)) rfl (fun _ => rfl) rfl ?_
          refine ex_go (S := (120, [(1, .inl 0), (0, gx_r 383)], [.inl 169, gx_r 389], t108, n, 0)) rfl (fun _ => rfl) rfl ?_
          refine ex_go (S := (121, [(1, .inl 0), (0, gx_r 383)], [gx_r 383, .inl 169, gx_r 389], t108, n, 0)) rfl (fun _ => rfl) rfl ?_
          refine gx_get rfl s108.1 rfl k19 rfl ?_
          refine gx_ap rfl (fun _ => rfl) s108.1 rfl rfl rfl (show 169 < 320 from by omega) (px_run_law 0 (by omega) (by omega)) (ai_in_h (by omega) (by omega) (by omega)) rfl (fun t121 g121 k121 e121 => ?_)
          have k22 : ai_hv t121 389 160 = some (.inl (σ 0 0)) := (e121 389 160 (by omega)).trans k9
          have k23 : ai_hv t121 389 161 = some (.inl (σ 1 0)) := (e121 389 161 (by omega)).trans k10
          have k24 : ai_hv t121 389 162 = some (.inl (σ 2 0)) := (e121 389 162 (by omega)).trans k11
          have k25 : ai_hv t121 389 163 = some (.inl (σ 3 0)) := (e121 389 163 (by omega)).trans k12
          have k26 : ai_hv t121 389 164 = some (.inl (σ 4 0)) := (e121 389 164 (by omega)).trans k13
          have k27 : ai_hv t121 389 166 = some (.inl (σ 5 0)) := (e121 389 166 (by omega)).trans k14
          have k28 : ai_hv t121 389 167 = some (.inl (σ 6 0)) := (e121 389 167 (by omega)).trans k15
          have k29 : ai_hv t121 389 168 = some (.inl (σ 7 0)) := (e121 389 168 (by omega)).trans k16
          have k30 : ai_hv t121 383 20 = some (.inl (σ 8 0)) := (e121 383 20 (by omega)).trans k17
          have k31 : ai_hv t121 383 19 = some (.inl (σ 15 0)) := (e121 383 19 (by omega)).trans k18
          have k32 : ai_hv t121 383 13 = some (.inl c) := (e121 383 13 (by omega)).trans k19
          have s121 : px_S t121 (a + 1) 0 := ⟨g121, (e121 383 7 (by omega)).trans s108.2.1, (e121 383 8 (by omega)).trans s108.2.2.1, s108.2.2.2⟩
          refine ex_go (S := (126, [(1, .inl 0), (0, gx_r 383)], [gx_r 383], t121, n, 0)) rfl (fun _ => rfl) rfl ?_
          refine ex_go (S := (127, [(1, .inl 0), (0, gx_r 383)], [.inl 0, gx_r 383], t121, n, 0)) rfl (fun _ => rfl) rfl ?_
          refine ex_go (S := (130, [(1, .inl 0), (0, gx_r 383)], [gx_r 383], t121, n, 0)) rfl (fun _ => rfl) rfl ?_
          refine ex_go (S := (132, [(1, .inl 0), (0, gx_r 383)], [.inl 7, gx_r 383], t121, n, 0)) rfl (fun _ => rfl) rfl ?_
          refine ex_go (S := (146, [(1, .inl 0), (0, gx_r 383)], [.inl 7, gx_r 383], t121, n, 0)) rfl (fun _ => rfl) rfl ?_
          refine gx_put rfl s121.1 rfl rfl (ai_in_h (by omega) (by omega) (by omega)) rfl (fun t133 g133 k133 e133 => ?_)
          have k34 : ai_hv t133 389 160 = some (.inl (σ 0 0)) := (e133 389 160 (by omega)).trans k22
          have k35 : ai_hv t133 389 161 = some (.inl (σ 1 0)) := (e133 389 161 (by omega)).trans k23
          have k36 : ai_hv t133 389 162 = some (.inl (σ 2 0)) := (e133 389 162 (by omega)).trans k24
          have k37 : ai_hv t133 389 163 = some (.inl (σ 3 0)) := (e133 389 163 (by omega)).trans k25
          have k38 : ai_hv t133 389 164 = some (.inl (σ 4 0)) := (e133 389 164 (by omega)).trans k26
          have k39 : ai_hv t133 389 166 = some (.inl (σ 5 0)) := (e133 389 166 (by omega)).trans k27
          have k40 : ai_hv t133 389 167 = some (.inl (σ 6 0)) := (e133 389 167 (by omega)).trans k28
          have k41 : ai_hv t133 389 168 = some (.inl (σ 7 0)) := (e133 389 168 (by omega)).trans k29
          have k42 : ai_hv t133 383 20 = some (.inl (σ 8 0)) := (e133 383 20 (by omega)).trans k30
          have k43 : ai_hv t133 383 19 = some (.inl (σ 15 0)) := (e133 383 19 (by omega)).trans k31
          have k44 : ai_hv t133 383 13 = some (.inl c) := (e133 383 13 (by omega)).trans k32
          have k45 : ai_hv t133 389 169 = some (.inl c) := (e133 389 169 (by omega)).trans k121
          have s133 : px_S t133 (a + 1) 0 := ⟨g133, (e133 383 7 (by omega)).trans s121.2.1, (e133 383 8 (by omega)).trans s121.2.2.1, s121.2.2.2⟩
          refine ex_go (S := (150, [(1, .inl 0), (0, gx_r 383)], [gx_r 383], t133, n, 0)) rfl (fun _ => rfl) rfl ?_
          refine ex_go (S := (151, [(1, .inl 0), (0, gx_r 383)], [.inl 0, gx_r 383], t133, n, 0)) rfl (fun _ => rfl) rfl ?_
          have hT47 := rT_keep (t' := t133) hT (fun c i h => (e133 c i (by omega)).trans ((e121 c i (by omega)).trans (e108 c i (by omega))))
          obtain ⟨_, r146, t146, a146, f146, c146, rfl, x146, w146, wa146⟩ := pe_all0 (S := S) (m := m) (N := N) (fh := 7) (by omega) d n _ _ _ _ s133 hT47 (by omega) k44 (by omega) k133
          have s146 := x146.1
          have e146 := x146.2.1
          have k146 := x146.2.2.1
          have q146 := x146.2.2.2.1
          have b146 := s146.2.2.2
          refine gx_call0 rfl rfl s133.1 rfl rfl r146 rfl ?_
          have k48 : ai_hv t146 389 160 = some (.inl (σ 0 0)) := (e146 389 160 (by omega)).trans k34
          have k49 : ai_hv t146 389 161 = some (.inl (σ 1 0)) := (e146 389 161 (by omega)).trans k35
          have k50 : ai_hv t146 389 162 = some (.inl (σ 2 0)) := (e146 389 162 (by omega)).trans k36
          have k51 : ai_hv t146 389 163 = some (.inl (σ 3 0)) := (e146 389 163 (by omega)).trans k37
          have k52 : ai_hv t146 389 164 = some (.inl (σ 4 0)) := (e146 389 164 (by omega)).trans k38
          have k53 : ai_hv t146 389 166 = some (.inl (σ 5 0)) := (e146 389 166 (by omega)).trans k39
          have k54 : ai_hv t146 389 167 = some (.inl (σ 6 0)) := (e146 389 167 (by omega)).trans k40
          have k55 : ai_hv t146 389 168 = some (.inl (σ 7 0)) := (e146 389 168 (by omega)).trans k41
          have k56 : ai_hv t146 383 20 = some (.inl (σ 8 0)) := (e146 383 20 (by omega)).trans k42
          have k57 : ai_hv t146 383 19 = some (.inl (σ 15 0)) := (e146 383 19 (by omega)).trans k43
          have k58 : ai_hv t146 389 169 = some (.inl c) := (e146 389 169 (by omega)).trans k45
          refine ex_go (S := (155, [(1, .inl 0), (0, gx_r 383)], [gx_r 383], t146, n, 0)) rfl (fun _ => rfl) rfl ?_
          refine ex_go (S := (156, [(1, .inl 0), (0, gx_r 383)], [.inl 0, gx_r 383], t146, n, 0)) rfl (fun _ => rfl) rfl ?_
          refine ex_go (S := (157, [(1, .inl 0), (0, gx_r 383)], [.inl 0, .inl 0, gx_r 383], t146, n, 0)) rfl (fun _ => rfl) rfl ?_
          obtain ⟨_, r159, t159, rfl, s159, e159, k159, ko159, kz159⟩ := pk_emit (d + 31) n (s146) (o := 0) (z := 0) (by omega) (by omega) (by omega) k146
          have b159 := s159.2.2.2
          refine gx_call0 rfl rfl s146.1 rfl rfl r159 rfl ?_
          have k60 : ai_hv t159 389 160 = some (.inl (σ 0 0)) := (e159 389 160 (by omega)).trans k48
          have k61 : ai_hv t159 389 161 = some (.inl (σ 1 0)) := (e159 389 161 (by omega)).trans k49
          have k62 : ai_hv t159 389 162 = some (.inl (σ 2 0)) := (e159 389 162 (by omega)).trans k50
          have k63 : ai_hv t159 389 163 = some (.inl (σ 3 0)) := (e159 389 163 (by omega)).trans k51
          have k64 : ai_hv t159 389 164 = some (.inl (σ 4 0)) := (e159 389 164 (by omega)).trans k52
          have k65 : ai_hv t159 389 166 = some (.inl (σ 5 0)) := (e159 389 166 (by omega)).trans k53
          have k66 : ai_hv t159 389 167 = some (.inl (σ 6 0)) := (e159 389 167 (by omega)).trans k54
          have k67 : ai_hv t159 389 168 = some (.inl (σ 7 0)) := (e159 389 168 (by omega)).trans k55
          have k68 : ai_hv t159 383 20 = some (.inl (σ 8 0)) := (e159 383 20 (by omega)).trans k56
          have k69 : ai_hv t159 383 19 = some (.inl (σ 15 0)) := (e159 383 19 (by omega)).trans k57
          have k70 : ai_hv t159 389 169 = some (.inl c) := (e159 389 169 (by omega)).trans k58
          refine ex_ret (r := (none, t159, n, 0)) rfl (fun _ => rfl) ?_
          have hT71 := rT_keep (t' := t159) hT (fun c i h => (e159 c i (by omega)).trans ((e146 c i (by omega)).trans ((e133 c i (by omega)).trans ((e121 c i (by omega)).trans (e108 c i (by omega))))))
          have e9 : Ev S m N (sp_fh 0) 0 0 (fr S m (σ 9 0 ≠ 0) 3 (a, 0)) (a146, f146) := by
            rw [fr_yes (show ¬ σ 9 0 ≠ 0 by omega)]
            exact w146
          refine ⟨_, rfl, t159, a146, f146, rfl, s159, hT71, _, Or.inr (Or.inr (Or.inr (Or.inr (Or.inr (Or.inr (Or.inr (Or.inr (Or.inl (⟨0, by omega, (show sp_wd S m N a (20 + 0) from hwc), e9, rfl⟩))))))))), by omega, fun h0 => ⟨by omega, ?_⟩⟩
          have xk72 : rows t159 389 236 3 (σ 2 0) (σ 10) := rows_keep hRk (fun i hi => (e159 389 (236 + 3 * i) (by omega)).trans ((e146 389 (236 + 3 * i) (by omega)).trans ((e133 389 (236 + 3 * i) (by omega)).trans ((e121 389 (236 + 3 * i) (by omega)).trans (e108 389 (236 + 3 * i) (by omega))))))
          have xk73 : rows t159 389 254 4 (σ 3 0) (σ 11) := rows_keep hRl (fun i hi => (e159 389 (254 + 4 * i) (by omega)).trans ((e146 389 (254 + 4 * i) (by omega)).trans ((e133 389 (254 + 4 * i) (by omega)).trans ((e121 389 (254 + 4 * i) (by omega)).trans (e108 389 (254 + 4 * i) (by omega))))))
          have xk74 : rows t159 389 278 3 (σ 4 0) (σ 12) := rows_keep hRs (fun i hi => (e159 389 (278 + 3 * i) (by omega)).trans ((e146 389 (278 + 3 * i) (by omega)).trans ((e133 389 (278 + 3 * i) (by omega)).trans ((e121 389 (278 + 3 * i) (by omega)).trans (e108 389 (278 + 3 * i) (by omega))))))
          exact ⟨⟨k60, k61, k62, k63, k64, k65, k66, k67, k68, k69⟩, RLw_up hRL (fun l hl hk => (e159 389 (169 + l) (by omega)).trans ((e146 389 (169 + l) (by omega)).trans ((e133 389 (169 + l) (by omega)).trans ((e121 389 (169 + l) (by omega)).trans (e108 389 (169 + l) (by omega)))))) k70 (by omega), xk72, xk73, xk74, fun k hk => ⟨((e159 393 k (by omega)).trans ((e146 393 k (by omega)).trans ((e133 393 k (by omega)).trans ((e121 393 k (by omega)).trans (e108 393 k (by omega)))))).trans (hRN k hk).1, ((e159 395 k (by omega)).trans ((e146 395 k (by omega)).trans ((e133 395 k (by omega)).trans ((e121 395 k (by omega)).trans (e108 395 k (by omega)))))).trans (hRN k hk).2⟩⟩
        · have hz4 : ai_hv t0 389 169 = some (.inl sv) := (rfl).trans hz2
          refine gx_ag (v := .inl sv) (cb := fun c => Nat.beq c 0) rfl (fun _ => rfl) s0.1 rfl rfl hz4 (by omega) rfl ?_
          refine gx_1f (c := .lt) rfl (by omega) (show ¬ (sv < 0) from by omega) rfl ?_
          refine ex_go (S := (62, [(1, .inl 0), (0, gx_r 383)], [gx_r 383], t0, n, 0)) rfl (fun _ => rfl) rfl ?_
          refine ex_go (S := (63, [(1, .inl 0), (0, gx_r 383)], [.inl 3, gx_r 383], t0, n, 0)) rfl (fun _ => rfl) rfl ?_
          obtain ⟨_, r175, t175, a175, f175, rfl, s175, e175, q175⟩ := pe_wrong (d + 31) n (s0) hT (by omega) (w := 3) (by omega)
          have b175 := s175.2.2.2
          have hT175 := rT_keep hT (fun c i h => e175 c i (by omega))
          refine gx_call0 rfl rfl s0.1 rfl rfl r175 rfl ?_
          have k76 : ai_hv t175 389 160 = some (.inl (σ 0 0)) := (e175 389 160 (by omega)).trans kk0
          have k77 : ai_hv t175 389 161 = some (.inl (σ 1 0)) := (e175 389 161 (by omega)).trans kk1
          have k78 : ai_hv t175 389 162 = some (.inl (σ 2 0)) := (e175 389 162 (by omega)).trans kk2
          have k79 : ai_hv t175 389 163 = some (.inl (σ 3 0)) := (e175 389 163 (by omega)).trans kk3
          have k80 : ai_hv t175 389 164 = some (.inl (σ 4 0)) := (e175 389 164 (by omega)).trans kk4
          have k81 : ai_hv t175 389 166 = some (.inl (σ 5 0)) := (e175 389 166 (by omega)).trans kk5
          have k82 : ai_hv t175 389 167 = some (.inl (σ 6 0)) := (e175 389 167 (by omega)).trans kk6
          have k83 : ai_hv t175 389 168 = some (.inl (σ 7 0)) := (e175 389 168 (by omega)).trans kk7
          have k84 : ai_hv t175 383 20 = some (.inl (σ 8 0)) := (e175 383 20 (by omega)).trans kk8
          have k85 : ai_hv t175 383 19 = some (.inl (σ 15 0)) := (e175 383 19 (by omega)).trans kk9
          have k86 : ai_hv t175 383 13 = some (.inl c) := (e175 383 13 (by omega)).trans kc
          have k87 : ai_hv t175 389 169 = some (.inl sv) := (e175 389 169 (by omega)).trans hz4
          refine ex_go (S := (67, [(1, .inl 0), (0, gx_r 383)], [gx_r 383], t175, n, 0)) rfl (fun _ => rfl) rfl ?_
          refine gx_get rfl s175.1 rfl s175.2.2.1 rfl ?_
          refine gx_1f (c := .le) rfl (by omega) (show ¬ (f175 ≤ 0) from by omega) rfl ?_
          refine ex_ret (r := (none, t175, n, 0)) rfl (fun _ => rfl) ?_
          have hT88 := rT_keep (t' := t175) hT (fun c i h => e175 c i (by omega))
          have e9 : Ev S m N (sp_fh 0) 0 0 (fr S m (σ 9 0 ≠ 0) 3 (a, 0)) (a175, f175) := by
            rw [show a175 = a by omega, show f175 = 3 + 16 * sp_st S m a by omega, fr_w (show σ 9 0 ≠ 0 by omega)]
            exact Ev_no (by omega)
          exact ⟨_, rfl, t175, a175, f175, rfl, s175, hT88, _, Or.inr (Or.inr (Or.inr (Or.inr (Or.inr (Or.inr (Or.inr (Or.inr (Or.inl (⟨0, by omega, (show sp_wd S m N a (20 + 0) from hwc), e9, rfl⟩))))))))), by omega, fun h0 => by omega⟩
      · subst e9
        refine ex_go (S := (22, [(1, .inl 1), (0, gx_r 383)], [.inl 1], t0, n, 0)) rfl (fun _ => rfl) rfl ?_
        refine ex_go (S := (33, [(1, .inl 1), (0, gx_r 383)], [], t0, n, 0)) rfl (fun _ => rfl) rfl ?_
        refine ex_go (S := (34, [(1, .inl 1), (0, gx_r 383)], [.inl 1], t0, n, 0)) rfl (fun _ => rfl) rfl ?_
        refine ex_go (S := (35, [(1, .inl 1), (0, gx_r 383)], [.inl 3, .inl 1], t0, n, 0)) rfl (fun _ => rfl) rfl ?_
        refine ex_go (S := (48, [(1, .inl 1), (0, gx_r 383)], [], t0, n, 0)) rfl (fun _ => rfl) rfl ?_
        refine ex_go (S := (49, [(1, .inl 1), (0, gx_r 383)], [gx_r 383], t0, n, 0)) rfl (fun _ => rfl) rfl ?_
        refine gx_ref (c := 389) rfl s0.1 rfl rfl rfl rfl ?_
        refine ex_go (S := (55, [(1, .inl 1), (0, gx_r 383)], [.inl 169, gx_r 389], t0, n, 0)) rfl (fun _ => rfl) rfl ?_
        refine ex_go (S := (56, [(1, .inl 1), (0, gx_r 383)], [.inl 1, .inl 169, gx_r 389], t0, n, 0)) rfl (fun _ => rfl) rfl ?_
        refine ex_go (S := (57, [(1, .inl 1), (0, gx_r 383)], [.inl 170, gx_r 389], t0, n, 0)) rfl (fun _ => rfl) rfl ?_
        rcases hRL 1 (by omega) with ⟨hz1, hz2⟩ | ⟨hz1, sv, hz2, hz3⟩
        · have hz4 : ai_hv t0 389 170 = some (.inl 4294967295) := (rfl).trans hz2
          refine gx_ag (v := .inl 4294967295) (cb := fun c => Nat.beq c 0) rfl (fun _ => rfl) s0.1 rfl rfl hz4 (by omega) rfl ?_
          refine ex_go (S := (66, [(1, .inl 1), (0, gx_r 383)], [], t0, n, 0)) rfl (fun _ => rfl) rfl ?_
          refine ex_go (S := (67, [(1, .inl 1), (0, gx_r 383)], [gx_r 383], t0, n, 0)) rfl (fun _ => rfl) rfl ?_
          refine gx_get rfl s0.1 rfl s0.2.2.1 rfl ?_
          refine ex_go (S := (74, [(1, .inl 1), (0, gx_r 383)], [], t0, n, 0)) rfl (fun _ => rfl) rfl ?_
          refine ex_go (S := (75, [(1, .inl 1), (0, gx_r 383)], [gx_r 383], t0, n, 0)) rfl (fun _ => rfl) rfl ?_
          refine ex_go (S := (76, [(1, .inl 1), (0, gx_r 383)], [gx_r 383, gx_r 383], t0, n, 0)) rfl (fun _ => rfl) rfl ?_
          refine gx_get rfl s0.1 rfl s0.2.1 rfl ?_
          refine ex_go (S := (80, [(1, .inl 1), (0, gx_r 383)], [.inl 1, .inl a, gx_r 383], t0, n, 0)) rfl (fun _ => rfl) rfl ?_
          refine ex_iadd rfl (by omega) rfl ?_
          refine gx_put rfl s0.1 rfl rfl (ai_in_h (by omega) (by omega) (by omega)) rfl (fun t189 g189 k189 e189 => ?_)
          have k90 : ai_hv t189 389 160 = some (.inl (σ 0 0)) := (e189 389 160 (by omega)).trans kk0
          have k91 : ai_hv t189 389 161 = some (.inl (σ 1 0)) := (e189 389 161 (by omega)).trans kk1
          have k92 : ai_hv t189 389 162 = some (.inl (σ 2 0)) := (e189 389 162 (by omega)).trans kk2
          have k93 : ai_hv t189 389 163 = some (.inl (σ 3 0)) := (e189 389 163 (by omega)).trans kk3
          have k94 : ai_hv t189 389 164 = some (.inl (σ 4 0)) := (e189 389 164 (by omega)).trans kk4
          have k95 : ai_hv t189 389 166 = some (.inl (σ 5 0)) := (e189 389 166 (by omega)).trans kk5
          have k96 : ai_hv t189 389 167 = some (.inl (σ 6 0)) := (e189 389 167 (by omega)).trans kk6
          have k97 : ai_hv t189 389 168 = some (.inl (σ 7 0)) := (e189 389 168 (by omega)).trans kk7
          have k98 : ai_hv t189 383 20 = some (.inl (σ 8 0)) := (e189 383 20 (by omega)).trans kk8
          have k99 : ai_hv t189 383 19 = some (.inl (σ 15 0)) := (e189 383 19 (by omega)).trans kk9
          have k100 : ai_hv t189 383 13 = some (.inl c) := (e189 383 13 (by omega)).trans kc
          have k101 : ai_hv t189 389 170 = some (.inl 4294967295) := (e189 389 170 (by omega)).trans hz4
          have s189 : px_S t189 (a + 1) 0 := ⟨g189, k189, (e189 383 8 (by omega)).trans s0.2.2.1, by omega, s0.2.2.2.2⟩
          refine ex_go (S := (85, [(1, .inl 1), (0, gx_r 383)], [.inl 1], t189, n, 0)) rfl (fun _ => rfl) rfl ?_
          refine ex_go (S := (86, [(1, .inl 1), (0, gx_r 383)], [.inl 3, .inl 1], t189, n, 0)) rfl (fun _ => rfl) rfl ?_
          refine ex_go (S := (111, [(1, .inl 1), (0, gx_r 383)], [], t189, n, 0)) rfl (fun _ => rfl) rfl ?_
          refine ex_go (S := (112, [(1, .inl 1), (0, gx_r 383)], [gx_r 383], t189, n, 0)) rfl (fun _ => rfl) rfl ?_
          refine gx_ref (c := 389) rfl s189.1 rfl rfl rfl rfl ?_
          refine ex_go (S := (118, [(1, .inl 1), (0, gx_r 383)], [.inl 169, gx_r 389], t189, n, 0)) rfl (fun _ => rfl) rfl ?_
          refine ex_go (S := (119, [(1, .inl 1), (0, gx_r 383)], [.inl 1, .inl 169, gx_r 389], t189, n, 0)) rfl (fun _ => rfl) rfl ?_
          refine ex_go (S := (120, [(1, .inl 1), (0, gx_r 383)], [.inl 170, gx_r 389], t189, n, 0)) rfl (fun _ => rfl) rfl ?_
          refine ex_go (S := (121, [(1, .inl 1), (0, gx_r 383)], [gx_r 383, .inl 170, gx_r 389], t189, n, 0)) rfl (fun _ => rfl) rfl ?_
          refine gx_get rfl s189.1 rfl k100 rfl ?_
          refine gx_ap rfl (fun _ => rfl) s189.1 rfl rfl rfl (show 170 < 320 from by omega) (px_run_law 1 (by omega) (by omega)) (ai_in_h (by omega) (by omega) (by omega)) rfl (fun t202 g202 k202 e202 => ?_)
          have k103 : ai_hv t202 389 160 = some (.inl (σ 0 0)) := (e202 389 160 (by omega)).trans k90
          have k104 : ai_hv t202 389 161 = some (.inl (σ 1 0)) := (e202 389 161 (by omega)).trans k91
          have k105 : ai_hv t202 389 162 = some (.inl (σ 2 0)) := (e202 389 162 (by omega)).trans k92
          have k106 : ai_hv t202 389 163 = some (.inl (σ 3 0)) := (e202 389 163 (by omega)).trans k93
          have k107 : ai_hv t202 389 164 = some (.inl (σ 4 0)) := (e202 389 164 (by omega)).trans k94
          have k108 : ai_hv t202 389 166 = some (.inl (σ 5 0)) := (e202 389 166 (by omega)).trans k95
          have k109 : ai_hv t202 389 167 = some (.inl (σ 6 0)) := (e202 389 167 (by omega)).trans k96
          have k110 : ai_hv t202 389 168 = some (.inl (σ 7 0)) := (e202 389 168 (by omega)).trans k97
          have k111 : ai_hv t202 383 20 = some (.inl (σ 8 0)) := (e202 383 20 (by omega)).trans k98
          have k112 : ai_hv t202 383 19 = some (.inl (σ 15 0)) := (e202 383 19 (by omega)).trans k99
          have k113 : ai_hv t202 383 13 = some (.inl c) := (e202 383 13 (by omega)).trans k100
          have s202 : px_S t202 (a + 1) 0 := ⟨g202, (e202 383 7 (by omega)).trans s189.2.1, (e202 383 8 (by omega)).trans s189.2.2.1, s189.2.2.2⟩
          refine ex_go (S := (126, [(1, .inl 1), (0, gx_r 383)], [gx_r 383], t202, n, 0)) rfl (fun _ => rfl) rfl ?_
          refine ex_go (S := (127, [(1, .inl 1), (0, gx_r 383)], [.inl 1, gx_r 383], t202, n, 0)) rfl (fun _ => rfl) rfl ?_
          refine ex_go (S := (135, [(1, .inl 1), (0, gx_r 383)], [gx_r 383], t202, n, 0)) rfl (fun _ => rfl) rfl ?_
          refine ex_go (S := (136, [(1, .inl 1), (0, gx_r 383)], [.inl 1, gx_r 383], t202, n, 0)) rfl (fun _ => rfl) rfl ?_
          refine ex_go (S := (137, [(1, .inl 1), (0, gx_r 383)], [.inl 1, .inl 1, gx_r 383], t202, n, 0)) rfl (fun _ => rfl) rfl ?_
          refine ex_go (S := (140, [(1, .inl 1), (0, gx_r 383)], [gx_r 383], t202, n, 0)) rfl (fun _ => rfl) rfl ?_
          refine ex_go (S := (142, [(1, .inl 1), (0, gx_r 383)], [.inl 8, gx_r 383], t202, n, 0)) rfl (fun _ => rfl) rfl ?_
          refine ex_go (S := (146, [(1, .inl 1), (0, gx_r 383)], [.inl 8, gx_r 383], t202, n, 0)) rfl (fun _ => rfl) rfl ?_
          refine gx_put rfl s202.1 rfl rfl (ai_in_h (by omega) (by omega) (by omega)) rfl (fun t214 g214 k214 e214 => ?_)
          have k115 : ai_hv t214 389 160 = some (.inl (σ 0 0)) := (e214 389 160 (by omega)).trans k103
          have k116 : ai_hv t214 389 161 = some (.inl (σ 1 0)) := (e214 389 161 (by omega)).trans k104
          have k117 : ai_hv t214 389 162 = some (.inl (σ 2 0)) := (e214 389 162 (by omega)).trans k105
          have k118 : ai_hv t214 389 163 = some (.inl (σ 3 0)) := (e214 389 163 (by omega)).trans k106
          have k119 : ai_hv t214 389 164 = some (.inl (σ 4 0)) := (e214 389 164 (by omega)).trans k107
          have k120 : ai_hv t214 389 166 = some (.inl (σ 5 0)) := (e214 389 166 (by omega)).trans k108
          have k121 : ai_hv t214 389 167 = some (.inl (σ 6 0)) := (e214 389 167 (by omega)).trans k109
          have k122 : ai_hv t214 389 168 = some (.inl (σ 7 0)) := (e214 389 168 (by omega)).trans k110
          have k123 : ai_hv t214 383 20 = some (.inl (σ 8 0)) := (e214 383 20 (by omega)).trans k111
          have k124 : ai_hv t214 383 19 = some (.inl (σ 15 0)) := (e214 383 19 (by omega)).trans k112
          have k125 : ai_hv t214 383 13 = some (.inl c) := (e214 383 13 (by omega)).trans k113
          have k126 : ai_hv t214 389 170 = some (.inl c) := (e214 389 170 (by omega)).trans k202
          have s214 : px_S t214 (a + 1) 0 := ⟨g214, (e214 383 7 (by omega)).trans s202.2.1, (e214 383 8 (by omega)).trans s202.2.2.1, s202.2.2.2⟩
          refine ex_go (S := (150, [(1, .inl 1), (0, gx_r 383)], [gx_r 383], t214, n, 0)) rfl (fun _ => rfl) rfl ?_
          refine ex_go (S := (151, [(1, .inl 1), (0, gx_r 383)], [.inl 0, gx_r 383], t214, n, 0)) rfl (fun _ => rfl) rfl ?_
          have hT128 := rT_keep (t' := t214) hT (fun c i h => (e214 c i (by omega)).trans ((e202 c i (by omega)).trans (e189 c i (by omega))))
          obtain ⟨_, r227, t227, a227, f227, c227, rfl, x227, w227, wa227⟩ := pe_all0 (S := S) (m := m) (N := N) (fh := 8) (by omega) d n _ _ _ _ s214 hT128 (by omega) k125 (by omega) k214
          have s227 := x227.1
          have e227 := x227.2.1
          have k227 := x227.2.2.1
          have q227 := x227.2.2.2.1
          have b227 := s227.2.2.2
          refine gx_call0 rfl rfl s214.1 rfl rfl r227 rfl ?_
          have k129 : ai_hv t227 389 160 = some (.inl (σ 0 0)) := (e227 389 160 (by omega)).trans k115
          have k130 : ai_hv t227 389 161 = some (.inl (σ 1 0)) := (e227 389 161 (by omega)).trans k116
          have k131 : ai_hv t227 389 162 = some (.inl (σ 2 0)) := (e227 389 162 (by omega)).trans k117
          have k132 : ai_hv t227 389 163 = some (.inl (σ 3 0)) := (e227 389 163 (by omega)).trans k118
          have k133 : ai_hv t227 389 164 = some (.inl (σ 4 0)) := (e227 389 164 (by omega)).trans k119
          have k134 : ai_hv t227 389 166 = some (.inl (σ 5 0)) := (e227 389 166 (by omega)).trans k120
          have k135 : ai_hv t227 389 167 = some (.inl (σ 6 0)) := (e227 389 167 (by omega)).trans k121
          have k136 : ai_hv t227 389 168 = some (.inl (σ 7 0)) := (e227 389 168 (by omega)).trans k122
          have k137 : ai_hv t227 383 20 = some (.inl (σ 8 0)) := (e227 383 20 (by omega)).trans k123
          have k138 : ai_hv t227 383 19 = some (.inl (σ 15 0)) := (e227 383 19 (by omega)).trans k124
          have k139 : ai_hv t227 389 170 = some (.inl c) := (e227 389 170 (by omega)).trans k126
          refine ex_go (S := (155, [(1, .inl 1), (0, gx_r 383)], [gx_r 383], t227, n, 0)) rfl (fun _ => rfl) rfl ?_
          refine ex_go (S := (156, [(1, .inl 1), (0, gx_r 383)], [.inl 0, gx_r 383], t227, n, 0)) rfl (fun _ => rfl) rfl ?_
          refine ex_go (S := (157, [(1, .inl 1), (0, gx_r 383)], [.inl 0, .inl 0, gx_r 383], t227, n, 0)) rfl (fun _ => rfl) rfl ?_
          obtain ⟨_, r240, t240, rfl, s240, e240, k240, ko240, kz240⟩ := pk_emit (d + 31) n (s227) (o := 0) (z := 0) (by omega) (by omega) (by omega) k227
          have b240 := s240.2.2.2
          refine gx_call0 rfl rfl s227.1 rfl rfl r240 rfl ?_
          have k141 : ai_hv t240 389 160 = some (.inl (σ 0 0)) := (e240 389 160 (by omega)).trans k129
          have k142 : ai_hv t240 389 161 = some (.inl (σ 1 0)) := (e240 389 161 (by omega)).trans k130
          have k143 : ai_hv t240 389 162 = some (.inl (σ 2 0)) := (e240 389 162 (by omega)).trans k131
          have k144 : ai_hv t240 389 163 = some (.inl (σ 3 0)) := (e240 389 163 (by omega)).trans k132
          have k145 : ai_hv t240 389 164 = some (.inl (σ 4 0)) := (e240 389 164 (by omega)).trans k133
          have k146 : ai_hv t240 389 166 = some (.inl (σ 5 0)) := (e240 389 166 (by omega)).trans k134
          have k147 : ai_hv t240 389 167 = some (.inl (σ 6 0)) := (e240 389 167 (by omega)).trans k135
          have k148 : ai_hv t240 389 168 = some (.inl (σ 7 0)) := (e240 389 168 (by omega)).trans k136
          have k149 : ai_hv t240 383 20 = some (.inl (σ 8 0)) := (e240 383 20 (by omega)).trans k137
          have k150 : ai_hv t240 383 19 = some (.inl (σ 15 0)) := (e240 383 19 (by omega)).trans k138
          have k151 : ai_hv t240 389 170 = some (.inl c) := (e240 389 170 (by omega)).trans k139
          refine ex_ret (r := (none, t240, n, 0)) rfl (fun _ => rfl) ?_
          have hT152 := rT_keep (t' := t240) hT (fun c i h => (e240 c i (by omega)).trans ((e227 c i (by omega)).trans ((e214 c i (by omega)).trans ((e202 c i (by omega)).trans (e189 c i (by omega))))))
          have e9 : Ev S m N (sp_fh 1) 0 0 (fr S m (σ 9 1 ≠ 0) 3 (a, 0)) (a227, f227) := by
            rw [fr_yes (show ¬ σ 9 1 ≠ 0 by omega)]
            exact w227
          refine ⟨_, rfl, t240, a227, f227, rfl, s240, hT152, _, Or.inr (Or.inr (Or.inr (Or.inr (Or.inr (Or.inr (Or.inr (Or.inr (Or.inl (⟨1, by omega, (show sp_wd S m N a (20 + 1) from hwc), e9, rfl⟩))))))))), by omega, fun h0 => ⟨by omega, ?_⟩⟩
          have xk153 : rows t240 389 236 3 (σ 2 0) (σ 10) := rows_keep hRk (fun i hi => (e240 389 (236 + 3 * i) (by omega)).trans ((e227 389 (236 + 3 * i) (by omega)).trans ((e214 389 (236 + 3 * i) (by omega)).trans ((e202 389 (236 + 3 * i) (by omega)).trans (e189 389 (236 + 3 * i) (by omega))))))
          have xk154 : rows t240 389 254 4 (σ 3 0) (σ 11) := rows_keep hRl (fun i hi => (e240 389 (254 + 4 * i) (by omega)).trans ((e227 389 (254 + 4 * i) (by omega)).trans ((e214 389 (254 + 4 * i) (by omega)).trans ((e202 389 (254 + 4 * i) (by omega)).trans (e189 389 (254 + 4 * i) (by omega))))))
          have xk155 : rows t240 389 278 3 (σ 4 0) (σ 12) := rows_keep hRs (fun i hi => (e240 389 (278 + 3 * i) (by omega)).trans ((e227 389 (278 + 3 * i) (by omega)).trans ((e214 389 (278 + 3 * i) (by omega)).trans ((e202 389 (278 + 3 * i) (by omega)).trans (e189 389 (278 + 3 * i) (by omega))))))
          exact ⟨⟨k141, k142, k143, k144, k145, k146, k147, k148, k149, k150⟩, RLw_up hRL (fun l hl hk => (e240 389 (169 + l) (by omega)).trans ((e227 389 (169 + l) (by omega)).trans ((e214 389 (169 + l) (by omega)).trans ((e202 389 (169 + l) (by omega)).trans (e189 389 (169 + l) (by omega)))))) k151 (by omega), xk153, xk154, xk155, fun k hk => ⟨((e240 393 k (by omega)).trans ((e227 393 k (by omega)).trans ((e214 393 k (by omega)).trans ((e202 393 k (by omega)).trans (e189 393 k (by omega)))))).trans (hRN k hk).1, ((e240 395 k (by omega)).trans ((e227 395 k (by omega)).trans ((e214 395 k (by omega)).trans ((e202 395 k (by omega)).trans (e189 395 k (by omega)))))).trans (hRN k hk).2⟩⟩
        · have hz4 : ai_hv t0 389 170 = some (.inl sv) := (rfl).trans hz2
          refine gx_ag (v := .inl sv) (cb := fun c => Nat.beq c 0) rfl (fun _ => rfl) s0.1 rfl rfl hz4 (by omega) rfl ?_
          refine gx_1f (c := .lt) rfl (by omega) (show ¬ (sv < 0) from by omega) rfl ?_
          refine ex_go (S := (62, [(1, .inl 1), (0, gx_r 383)], [gx_r 383], t0, n, 0)) rfl (fun _ => rfl) rfl ?_
          refine ex_go (S := (63, [(1, .inl 1), (0, gx_r 383)], [.inl 3, gx_r 383], t0, n, 0)) rfl (fun _ => rfl) rfl ?_
          obtain ⟨_, r256, t256, a256, f256, rfl, s256, e256, q256⟩ := pe_wrong (d + 31) n (s0) hT (by omega) (w := 3) (by omega)
          have b256 := s256.2.2.2
          have hT256 := rT_keep hT (fun c i h => e256 c i (by omega))
          refine gx_call0 rfl rfl s0.1 rfl rfl r256 rfl ?_
          have k157 : ai_hv t256 389 160 = some (.inl (σ 0 0)) := (e256 389 160 (by omega)).trans kk0
          have k158 : ai_hv t256 389 161 = some (.inl (σ 1 0)) := (e256 389 161 (by omega)).trans kk1
          have k159 : ai_hv t256 389 162 = some (.inl (σ 2 0)) := (e256 389 162 (by omega)).trans kk2
          have k160 : ai_hv t256 389 163 = some (.inl (σ 3 0)) := (e256 389 163 (by omega)).trans kk3
          have k161 : ai_hv t256 389 164 = some (.inl (σ 4 0)) := (e256 389 164 (by omega)).trans kk4
          have k162 : ai_hv t256 389 166 = some (.inl (σ 5 0)) := (e256 389 166 (by omega)).trans kk5
          have k163 : ai_hv t256 389 167 = some (.inl (σ 6 0)) := (e256 389 167 (by omega)).trans kk6
          have k164 : ai_hv t256 389 168 = some (.inl (σ 7 0)) := (e256 389 168 (by omega)).trans kk7
          have k165 : ai_hv t256 383 20 = some (.inl (σ 8 0)) := (e256 383 20 (by omega)).trans kk8
          have k166 : ai_hv t256 383 19 = some (.inl (σ 15 0)) := (e256 383 19 (by omega)).trans kk9
          have k167 : ai_hv t256 383 13 = some (.inl c) := (e256 383 13 (by omega)).trans kc
          have k168 : ai_hv t256 389 170 = some (.inl sv) := (e256 389 170 (by omega)).trans hz4
          refine ex_go (S := (67, [(1, .inl 1), (0, gx_r 383)], [gx_r 383], t256, n, 0)) rfl (fun _ => rfl) rfl ?_
          refine gx_get rfl s256.1 rfl s256.2.2.1 rfl ?_
          refine gx_1f (c := .le) rfl (by omega) (show ¬ (f256 ≤ 0) from by omega) rfl ?_
          refine ex_ret (r := (none, t256, n, 0)) rfl (fun _ => rfl) ?_
          have hT169 := rT_keep (t' := t256) hT (fun c i h => e256 c i (by omega))
          have e9 : Ev S m N (sp_fh 1) 0 0 (fr S m (σ 9 1 ≠ 0) 3 (a, 0)) (a256, f256) := by
            rw [show a256 = a by omega, show f256 = 3 + 16 * sp_st S m a by omega, fr_w (show σ 9 1 ≠ 0 by omega)]
            exact Ev_no (by omega)
          exact ⟨_, rfl, t256, a256, f256, rfl, s256, hT169, _, Or.inr (Or.inr (Or.inr (Or.inr (Or.inr (Or.inr (Or.inr (Or.inr (Or.inl (⟨1, by omega, (show sp_wd S m N a (20 + 1) from hwc), e9, rfl⟩))))))))), by omega, fun h0 => by omega⟩
      · subst e9
        refine ex_go (S := (22, [(1, .inl 2), (0, gx_r 383)], [.inl 2], t0, n, 0)) rfl (fun _ => rfl) rfl ?_
        refine ex_go (S := (33, [(1, .inl 2), (0, gx_r 383)], [], t0, n, 0)) rfl (fun _ => rfl) rfl ?_
        refine ex_go (S := (34, [(1, .inl 2), (0, gx_r 383)], [.inl 2], t0, n, 0)) rfl (fun _ => rfl) rfl ?_
        refine ex_go (S := (35, [(1, .inl 2), (0, gx_r 383)], [.inl 3, .inl 2], t0, n, 0)) rfl (fun _ => rfl) rfl ?_
        refine ex_go (S := (48, [(1, .inl 2), (0, gx_r 383)], [], t0, n, 0)) rfl (fun _ => rfl) rfl ?_
        refine ex_go (S := (49, [(1, .inl 2), (0, gx_r 383)], [gx_r 383], t0, n, 0)) rfl (fun _ => rfl) rfl ?_
        refine gx_ref (c := 389) rfl s0.1 rfl rfl rfl rfl ?_
        refine ex_go (S := (55, [(1, .inl 2), (0, gx_r 383)], [.inl 169, gx_r 389], t0, n, 0)) rfl (fun _ => rfl) rfl ?_
        refine ex_go (S := (56, [(1, .inl 2), (0, gx_r 383)], [.inl 2, .inl 169, gx_r 389], t0, n, 0)) rfl (fun _ => rfl) rfl ?_
        refine ex_go (S := (57, [(1, .inl 2), (0, gx_r 383)], [.inl 171, gx_r 389], t0, n, 0)) rfl (fun _ => rfl) rfl ?_
        rcases hRL 2 (by omega) with ⟨hz1, hz2⟩ | ⟨hz1, sv, hz2, hz3⟩
        · have hz4 : ai_hv t0 389 171 = some (.inl 4294967295) := (rfl).trans hz2
          refine gx_ag (v := .inl 4294967295) (cb := fun c => Nat.beq c 0) rfl (fun _ => rfl) s0.1 rfl rfl hz4 (by omega) rfl ?_
          refine ex_go (S := (66, [(1, .inl 2), (0, gx_r 383)], [], t0, n, 0)) rfl (fun _ => rfl) rfl ?_
          refine ex_go (S := (67, [(1, .inl 2), (0, gx_r 383)], [gx_r 383], t0, n, 0)) rfl (fun _ => rfl) rfl ?_
          refine gx_get rfl s0.1 rfl s0.2.2.1 rfl ?_
          refine ex_go (S := (74, [(1, .inl 2), (0, gx_r 383)], [], t0, n, 0)) rfl (fun _ => rfl) rfl ?_
          refine ex_go (S := (75, [(1, .inl 2), (0, gx_r 383)], [gx_r 383], t0, n, 0)) rfl (fun _ => rfl) rfl ?_
          refine ex_go (S := (76, [(1, .inl 2), (0, gx_r 383)], [gx_r 383, gx_r 383], t0, n, 0)) rfl (fun _ => rfl) rfl ?_
          refine gx_get rfl s0.1 rfl s0.2.1 rfl ?_
          refine ex_go (S := (80, [(1, .inl 2), (0, gx_r 383)], [.inl 1, .inl a, gx_r 383], t0, n, 0)) rfl (fun _ => rfl) rfl ?_
          refine ex_iadd rfl (by omega) rfl ?_
          refine gx_put rfl s0.1 rfl rfl (ai_in_h (by omega) (by omega) (by omega)) rfl (fun t270 g270 k270 e270 => ?_)
          have k171 : ai_hv t270 389 160 = some (.inl (σ 0 0)) := (e270 389 160 (by omega)).trans kk0
          have k172 : ai_hv t270 389 161 = some (.inl (σ 1 0)) := (e270 389 161 (by omega)).trans kk1
          have k173 : ai_hv t270 389 162 = some (.inl (σ 2 0)) := (e270 389 162 (by omega)).trans kk2
          have k174 : ai_hv t270 389 163 = some (.inl (σ 3 0)) := (e270 389 163 (by omega)).trans kk3
          have k175 : ai_hv t270 389 164 = some (.inl (σ 4 0)) := (e270 389 164 (by omega)).trans kk4
          have k176 : ai_hv t270 389 166 = some (.inl (σ 5 0)) := (e270 389 166 (by omega)).trans kk5
          have k177 : ai_hv t270 389 167 = some (.inl (σ 6 0)) := (e270 389 167 (by omega)).trans kk6
          have k178 : ai_hv t270 389 168 = some (.inl (σ 7 0)) := (e270 389 168 (by omega)).trans kk7
          have k179 : ai_hv t270 383 20 = some (.inl (σ 8 0)) := (e270 383 20 (by omega)).trans kk8
          have k180 : ai_hv t270 383 19 = some (.inl (σ 15 0)) := (e270 383 19 (by omega)).trans kk9
          have k181 : ai_hv t270 383 13 = some (.inl c) := (e270 383 13 (by omega)).trans kc
          have k182 : ai_hv t270 389 171 = some (.inl 4294967295) := (e270 389 171 (by omega)).trans hz4
          have s270 : px_S t270 (a + 1) 0 := ⟨g270, k270, (e270 383 8 (by omega)).trans s0.2.2.1, by omega, s0.2.2.2.2⟩
          refine ex_go (S := (85, [(1, .inl 2), (0, gx_r 383)], [.inl 2], t270, n, 0)) rfl (fun _ => rfl) rfl ?_
          refine ex_go (S := (86, [(1, .inl 2), (0, gx_r 383)], [.inl 3, .inl 2], t270, n, 0)) rfl (fun _ => rfl) rfl ?_
          refine ex_go (S := (111, [(1, .inl 2), (0, gx_r 383)], [], t270, n, 0)) rfl (fun _ => rfl) rfl ?_
          refine ex_go (S := (112, [(1, .inl 2), (0, gx_r 383)], [gx_r 383], t270, n, 0)) rfl (fun _ => rfl) rfl ?_
          refine gx_ref (c := 389) rfl s270.1 rfl rfl rfl rfl ?_
          refine ex_go (S := (118, [(1, .inl 2), (0, gx_r 383)], [.inl 169, gx_r 389], t270, n, 0)) rfl (fun _ => rfl) rfl ?_
          refine ex_go (S := (119, [(1, .inl 2), (0, gx_r 383)], [.inl 2, .inl 169, gx_r 389], t270, n, 0)) rfl (fun _ => rfl) rfl ?_
          refine ex_go (S := (120, [(1, .inl 2), (0, gx_r 383)], [.inl 171, gx_r 389], t270, n, 0)) rfl (fun _ => rfl) rfl ?_
          refine ex_go (S := (121, [(1, .inl 2), (0, gx_r 383)], [gx_r 383, .inl 171, gx_r 389], t270, n, 0)) rfl (fun _ => rfl) rfl ?_
          refine gx_get rfl s270.1 rfl k181 rfl ?_
          refine gx_ap rfl (fun _ => rfl) s270.1 rfl rfl rfl (show 171 < 320 from by omega) (px_run_law 2 (by omega) (by omega)) (ai_in_h (by omega) (by omega) (by omega)) rfl (fun t283 g283 k283 e283 => ?_)
          have k184 : ai_hv t283 389 160 = some (.inl (σ 0 0)) := (e283 389 160 (by omega)).trans k171
          have k185 : ai_hv t283 389 161 = some (.inl (σ 1 0)) := (e283 389 161 (by omega)).trans k172
          have k186 : ai_hv t283 389 162 = some (.inl (σ 2 0)) := (e283 389 162 (by omega)).trans k173
          have k187 : ai_hv t283 389 163 = some (.inl (σ 3 0)) := (e283 389 163 (by omega)).trans k174
          have k188 : ai_hv t283 389 164 = some (.inl (σ 4 0)) := (e283 389 164 (by omega)).trans k175
          have k189 : ai_hv t283 389 166 = some (.inl (σ 5 0)) := (e283 389 166 (by omega)).trans k176
          have k190 : ai_hv t283 389 167 = some (.inl (σ 6 0)) := (e283 389 167 (by omega)).trans k177
          have k191 : ai_hv t283 389 168 = some (.inl (σ 7 0)) := (e283 389 168 (by omega)).trans k178
          have k192 : ai_hv t283 383 20 = some (.inl (σ 8 0)) := (e283 383 20 (by omega)).trans k179
          have k193 : ai_hv t283 383 19 = some (.inl (σ 15 0)) := (e283 383 19 (by omega)).trans k180
          have k194 : ai_hv t283 383 13 = some (.inl c) := (e283 383 13 (by omega)).trans k181
          have s283 : px_S t283 (a + 1) 0 := ⟨g283, (e283 383 7 (by omega)).trans s270.2.1, (e283 383 8 (by omega)).trans s270.2.2.1, s270.2.2.2⟩
          refine ex_go (S := (126, [(1, .inl 2), (0, gx_r 383)], [gx_r 383], t283, n, 0)) rfl (fun _ => rfl) rfl ?_
          refine ex_go (S := (127, [(1, .inl 2), (0, gx_r 383)], [.inl 2, gx_r 383], t283, n, 0)) rfl (fun _ => rfl) rfl ?_
          refine ex_go (S := (135, [(1, .inl 2), (0, gx_r 383)], [gx_r 383], t283, n, 0)) rfl (fun _ => rfl) rfl ?_
          refine ex_go (S := (136, [(1, .inl 2), (0, gx_r 383)], [.inl 2, gx_r 383], t283, n, 0)) rfl (fun _ => rfl) rfl ?_
          refine ex_go (S := (137, [(1, .inl 2), (0, gx_r 383)], [.inl 1, .inl 2, gx_r 383], t283, n, 0)) rfl (fun _ => rfl) rfl ?_
          refine ex_go (S := (145, [(1, .inl 2), (0, gx_r 383)], [gx_r 383], t283, n, 0)) rfl (fun _ => rfl) rfl ?_
          refine ex_go (S := (146, [(1, .inl 2), (0, gx_r 383)], [.inl 2, gx_r 383], t283, n, 0)) rfl (fun _ => rfl) rfl ?_
          refine gx_put rfl s283.1 rfl rfl (ai_in_h (by omega) (by omega) (by omega)) rfl (fun t295 g295 k295 e295 => ?_)
          have k196 : ai_hv t295 389 160 = some (.inl (σ 0 0)) := (e295 389 160 (by omega)).trans k184
          have k197 : ai_hv t295 389 161 = some (.inl (σ 1 0)) := (e295 389 161 (by omega)).trans k185
          have k198 : ai_hv t295 389 162 = some (.inl (σ 2 0)) := (e295 389 162 (by omega)).trans k186
          have k199 : ai_hv t295 389 163 = some (.inl (σ 3 0)) := (e295 389 163 (by omega)).trans k187
          have k200 : ai_hv t295 389 164 = some (.inl (σ 4 0)) := (e295 389 164 (by omega)).trans k188
          have k201 : ai_hv t295 389 166 = some (.inl (σ 5 0)) := (e295 389 166 (by omega)).trans k189
          have k202 : ai_hv t295 389 167 = some (.inl (σ 6 0)) := (e295 389 167 (by omega)).trans k190
          have k203 : ai_hv t295 389 168 = some (.inl (σ 7 0)) := (e295 389 168 (by omega)).trans k191
          have k204 : ai_hv t295 383 20 = some (.inl (σ 8 0)) := (e295 383 20 (by omega)).trans k192
          have k205 : ai_hv t295 383 19 = some (.inl (σ 15 0)) := (e295 383 19 (by omega)).trans k193
          have k206 : ai_hv t295 383 13 = some (.inl c) := (e295 383 13 (by omega)).trans k194
          have k207 : ai_hv t295 389 171 = some (.inl c) := (e295 389 171 (by omega)).trans k283
          have s295 : px_S t295 (a + 1) 0 := ⟨g295, (e295 383 7 (by omega)).trans s283.2.1, (e295 383 8 (by omega)).trans s283.2.2.1, s283.2.2.2⟩
          refine ex_go (S := (150, [(1, .inl 2), (0, gx_r 383)], [gx_r 383], t295, n, 0)) rfl (fun _ => rfl) rfl ?_
          refine ex_go (S := (151, [(1, .inl 2), (0, gx_r 383)], [.inl 0, gx_r 383], t295, n, 0)) rfl (fun _ => rfl) rfl ?_
          have hT209 := rT_keep (t' := t295) hT (fun c i h => (e295 c i (by omega)).trans ((e283 c i (by omega)).trans (e270 c i (by omega))))
          obtain ⟨_, r308, t308, a308, f308, c308, rfl, x308, w308, wa308⟩ := pe_all0 (S := S) (m := m) (N := N) (fh := 2) (by omega) d n _ _ _ _ s295 hT209 (by omega) k206 (by omega) k295
          have s308 := x308.1
          have e308 := x308.2.1
          have k308 := x308.2.2.1
          have q308 := x308.2.2.2.1
          have b308 := s308.2.2.2
          refine gx_call0 rfl rfl s295.1 rfl rfl r308 rfl ?_
          have k210 : ai_hv t308 389 160 = some (.inl (σ 0 0)) := (e308 389 160 (by omega)).trans k196
          have k211 : ai_hv t308 389 161 = some (.inl (σ 1 0)) := (e308 389 161 (by omega)).trans k197
          have k212 : ai_hv t308 389 162 = some (.inl (σ 2 0)) := (e308 389 162 (by omega)).trans k198
          have k213 : ai_hv t308 389 163 = some (.inl (σ 3 0)) := (e308 389 163 (by omega)).trans k199
          have k214 : ai_hv t308 389 164 = some (.inl (σ 4 0)) := (e308 389 164 (by omega)).trans k200
          have k215 : ai_hv t308 389 166 = some (.inl (σ 5 0)) := (e308 389 166 (by omega)).trans k201
          have k216 : ai_hv t308 389 167 = some (.inl (σ 6 0)) := (e308 389 167 (by omega)).trans k202
          have k217 : ai_hv t308 389 168 = some (.inl (σ 7 0)) := (e308 389 168 (by omega)).trans k203
          have k218 : ai_hv t308 383 20 = some (.inl (σ 8 0)) := (e308 383 20 (by omega)).trans k204
          have k219 : ai_hv t308 383 19 = some (.inl (σ 15 0)) := (e308 383 19 (by omega)).trans k205
          have k220 : ai_hv t308 389 171 = some (.inl c) := (e308 389 171 (by omega)).trans k207
          refine ex_go (S := (155, [(1, .inl 2), (0, gx_r 383)], [gx_r 383], t308, n, 0)) rfl (fun _ => rfl) rfl ?_
          refine ex_go (S := (156, [(1, .inl 2), (0, gx_r 383)], [.inl 0, gx_r 383], t308, n, 0)) rfl (fun _ => rfl) rfl ?_
          refine ex_go (S := (157, [(1, .inl 2), (0, gx_r 383)], [.inl 0, .inl 0, gx_r 383], t308, n, 0)) rfl (fun _ => rfl) rfl ?_
          obtain ⟨_, r321, t321, rfl, s321, e321, k321, ko321, kz321⟩ := pk_emit (d + 31) n (s308) (o := 0) (z := 0) (by omega) (by omega) (by omega) k308
          have b321 := s321.2.2.2
          refine gx_call0 rfl rfl s308.1 rfl rfl r321 rfl ?_
          have k222 : ai_hv t321 389 160 = some (.inl (σ 0 0)) := (e321 389 160 (by omega)).trans k210
          have k223 : ai_hv t321 389 161 = some (.inl (σ 1 0)) := (e321 389 161 (by omega)).trans k211
          have k224 : ai_hv t321 389 162 = some (.inl (σ 2 0)) := (e321 389 162 (by omega)).trans k212
          have k225 : ai_hv t321 389 163 = some (.inl (σ 3 0)) := (e321 389 163 (by omega)).trans k213
          have k226 : ai_hv t321 389 164 = some (.inl (σ 4 0)) := (e321 389 164 (by omega)).trans k214
          have k227 : ai_hv t321 389 166 = some (.inl (σ 5 0)) := (e321 389 166 (by omega)).trans k215
          have k228 : ai_hv t321 389 167 = some (.inl (σ 6 0)) := (e321 389 167 (by omega)).trans k216
          have k229 : ai_hv t321 389 168 = some (.inl (σ 7 0)) := (e321 389 168 (by omega)).trans k217
          have k230 : ai_hv t321 383 20 = some (.inl (σ 8 0)) := (e321 383 20 (by omega)).trans k218
          have k231 : ai_hv t321 383 19 = some (.inl (σ 15 0)) := (e321 383 19 (by omega)).trans k219
          have k232 : ai_hv t321 389 171 = some (.inl c) := (e321 389 171 (by omega)).trans k220
          refine ex_ret (r := (none, t321, n, 0)) rfl (fun _ => rfl) ?_
          have hT233 := rT_keep (t' := t321) hT (fun c i h => (e321 c i (by omega)).trans ((e308 c i (by omega)).trans ((e295 c i (by omega)).trans ((e283 c i (by omega)).trans (e270 c i (by omega))))))
          have e9 : Ev S m N (sp_fh 2) 0 0 (fr S m (σ 9 2 ≠ 0) 3 (a, 0)) (a308, f308) := by
            rw [fr_yes (show ¬ σ 9 2 ≠ 0 by omega)]
            exact w308
          refine ⟨_, rfl, t321, a308, f308, rfl, s321, hT233, _, Or.inr (Or.inr (Or.inr (Or.inr (Or.inr (Or.inr (Or.inr (Or.inr (Or.inl (⟨2, by omega, (show sp_wd S m N a (20 + 2) from hwc), e9, rfl⟩))))))))), by omega, fun h0 => ⟨by omega, ?_⟩⟩
          have xk234 : rows t321 389 236 3 (σ 2 0) (σ 10) := rows_keep hRk (fun i hi => (e321 389 (236 + 3 * i) (by omega)).trans ((e308 389 (236 + 3 * i) (by omega)).trans ((e295 389 (236 + 3 * i) (by omega)).trans ((e283 389 (236 + 3 * i) (by omega)).trans (e270 389 (236 + 3 * i) (by omega))))))
          have xk235 : rows t321 389 254 4 (σ 3 0) (σ 11) := rows_keep hRl (fun i hi => (e321 389 (254 + 4 * i) (by omega)).trans ((e308 389 (254 + 4 * i) (by omega)).trans ((e295 389 (254 + 4 * i) (by omega)).trans ((e283 389 (254 + 4 * i) (by omega)).trans (e270 389 (254 + 4 * i) (by omega))))))
          have xk236 : rows t321 389 278 3 (σ 4 0) (σ 12) := rows_keep hRs (fun i hi => (e321 389 (278 + 3 * i) (by omega)).trans ((e308 389 (278 + 3 * i) (by omega)).trans ((e295 389 (278 + 3 * i) (by omega)).trans ((e283 389 (278 + 3 * i) (by omega)).trans (e270 389 (278 + 3 * i) (by omega))))))
          exact ⟨⟨k222, k223, k224, k225, k226, k227, k228, k229, k230, k231⟩, RLw_up hRL (fun l hl hk => (e321 389 (169 + l) (by omega)).trans ((e308 389 (169 + l) (by omega)).trans ((e295 389 (169 + l) (by omega)).trans ((e283 389 (169 + l) (by omega)).trans (e270 389 (169 + l) (by omega)))))) k232 (by omega), xk234, xk235, xk236, fun k hk => ⟨((e321 393 k (by omega)).trans ((e308 393 k (by omega)).trans ((e295 393 k (by omega)).trans ((e283 393 k (by omega)).trans (e270 393 k (by omega)))))).trans (hRN k hk).1, ((e321 395 k (by omega)).trans ((e308 395 k (by omega)).trans ((e295 395 k (by omega)).trans ((e283 395 k (by omega)).trans (e270 395 k (by omega)))))).trans (hRN k hk).2⟩⟩
        · have hz4 : ai_hv t0 389 171 = some (.inl sv) := (rfl).trans hz2
          refine gx_ag (v := .inl sv) (cb := fun c => Nat.beq c 0) rfl (fun _ => rfl) s0.1 rfl rfl hz4 (by omega) rfl ?_
          refine gx_1f (c := .lt) rfl (by omega) (show ¬ (sv < 0) from by omega) rfl ?_
          refine ex_go (S := (62, [(1, .inl 2), (0, gx_r 383)], [gx_r 383], t0, n, 0)) rfl (fun _ => rfl) rfl ?_
          refine ex_go (S := (63, [(1, .inl 2), (0, gx_r 383)], [.inl 3, gx_r 383], t0, n, 0)) rfl (fun _ => rfl) rfl ?_
          obtain ⟨_, r337, t337, a337, f337, rfl, s337, e337, q337⟩ := pe_wrong (d + 31) n (s0) hT (by omega) (w := 3) (by omega)
          have b337 := s337.2.2.2
          have hT337 := rT_keep hT (fun c i h => e337 c i (by omega))
          refine gx_call0 rfl rfl s0.1 rfl rfl r337 rfl ?_
          have k238 : ai_hv t337 389 160 = some (.inl (σ 0 0)) := (e337 389 160 (by omega)).trans kk0
          have k239 : ai_hv t337 389 161 = some (.inl (σ 1 0)) := (e337 389 161 (by omega)).trans kk1
          have k240 : ai_hv t337 389 162 = some (.inl (σ 2 0)) := (e337 389 162 (by omega)).trans kk2
          have k241 : ai_hv t337 389 163 = some (.inl (σ 3 0)) := (e337 389 163 (by omega)).trans kk3
          have k242 : ai_hv t337 389 164 = some (.inl (σ 4 0)) := (e337 389 164 (by omega)).trans kk4
          have k243 : ai_hv t337 389 166 = some (.inl (σ 5 0)) := (e337 389 166 (by omega)).trans kk5
          have k244 : ai_hv t337 389 167 = some (.inl (σ 6 0)) := (e337 389 167 (by omega)).trans kk6
          have k245 : ai_hv t337 389 168 = some (.inl (σ 7 0)) := (e337 389 168 (by omega)).trans kk7
          have k246 : ai_hv t337 383 20 = some (.inl (σ 8 0)) := (e337 383 20 (by omega)).trans kk8
          have k247 : ai_hv t337 383 19 = some (.inl (σ 15 0)) := (e337 383 19 (by omega)).trans kk9
          have k248 : ai_hv t337 383 13 = some (.inl c) := (e337 383 13 (by omega)).trans kc
          have k249 : ai_hv t337 389 171 = some (.inl sv) := (e337 389 171 (by omega)).trans hz4
          refine ex_go (S := (67, [(1, .inl 2), (0, gx_r 383)], [gx_r 383], t337, n, 0)) rfl (fun _ => rfl) rfl ?_
          refine gx_get rfl s337.1 rfl s337.2.2.1 rfl ?_
          refine gx_1f (c := .le) rfl (by omega) (show ¬ (f337 ≤ 0) from by omega) rfl ?_
          refine ex_ret (r := (none, t337, n, 0)) rfl (fun _ => rfl) ?_
          have hT250 := rT_keep (t' := t337) hT (fun c i h => e337 c i (by omega))
          have e9 : Ev S m N (sp_fh 2) 0 0 (fr S m (σ 9 2 ≠ 0) 3 (a, 0)) (a337, f337) := by
            rw [show a337 = a by omega, show f337 = 3 + 16 * sp_st S m a by omega, fr_w (show σ 9 2 ≠ 0 by omega)]
            exact Ev_no (by omega)
          exact ⟨_, rfl, t337, a337, f337, rfl, s337, hT250, _, Or.inr (Or.inr (Or.inr (Or.inr (Or.inr (Or.inr (Or.inr (Or.inr (Or.inl (⟨2, by omega, (show sp_wd S m N a (20 + 2) from hwc), e9, rfl⟩))))))))), by omega, fun h0 => by omega⟩
    · subst hwa
      refine ex_go (S := (21, [(1, .inl 4294967295), (0, gx_r 383)], [], t0, n, 0)) rfl (fun _ => rfl) rfl ?_
      refine ex_go (S := (22, [(1, .inl 4294967295), (0, gx_r 383)], [.inl 4294967295], t0, n, 0)) rfl (fun _ => rfl) rfl ?_
      refine ex_go (S := (25, [(1, .inl 4294967295), (0, gx_r 383)], [], t0, n, 0)) rfl (fun _ => rfl) rfl ?_
      refine ex_go (S := (26, [(1, .inl 4294967295), (0, gx_r 383)], [gx_r 383], t0, n, 0)) rfl (fun _ => rfl) rfl ?_
      refine ex_go (S := (27, [(1, .inl 4294967295), (0, gx_r 383)], [.inl 1, gx_r 383], t0, n, 0)) rfl (fun _ => rfl) rfl ?_
      obtain ⟨_, r351, t351, a351, f351, rfl, s351, e351, q351⟩ := pe_wrong (d + 31) n (s0) hT (by omega) (w := 1) (by omega)
      have b351 := s351.2.2.2
      have hT351 := rT_keep hT (fun c i h => e351 c i (by omega))
      refine gx_call0 rfl rfl s0.1 rfl rfl r351 rfl ?_
      have k252 : ai_hv t351 389 160 = some (.inl (σ 0 0)) := (e351 389 160 (by omega)).trans kk0
      have k253 : ai_hv t351 389 161 = some (.inl (σ 1 0)) := (e351 389 161 (by omega)).trans kk1
      have k254 : ai_hv t351 389 162 = some (.inl (σ 2 0)) := (e351 389 162 (by omega)).trans kk2
      have k255 : ai_hv t351 389 163 = some (.inl (σ 3 0)) := (e351 389 163 (by omega)).trans kk3
      have k256 : ai_hv t351 389 164 = some (.inl (σ 4 0)) := (e351 389 164 (by omega)).trans kk4
      have k257 : ai_hv t351 389 166 = some (.inl (σ 5 0)) := (e351 389 166 (by omega)).trans kk5
      have k258 : ai_hv t351 389 167 = some (.inl (σ 6 0)) := (e351 389 167 (by omega)).trans kk6
      have k259 : ai_hv t351 389 168 = some (.inl (σ 7 0)) := (e351 389 168 (by omega)).trans kk7
      have k260 : ai_hv t351 383 20 = some (.inl (σ 8 0)) := (e351 383 20 (by omega)).trans kk8
      have k261 : ai_hv t351 383 19 = some (.inl (σ 15 0)) := (e351 383 19 (by omega)).trans kk9
      have k262 : ai_hv t351 383 13 = some (.inl c) := (e351 383 13 (by omega)).trans kc
      refine ex_go (S := (66, [(1, .inl 4294967295), (0, gx_r 383)], [], t351, n, 0)) rfl (fun _ => rfl) rfl ?_
      refine ex_go (S := (67, [(1, .inl 4294967295), (0, gx_r 383)], [gx_r 383], t351, n, 0)) rfl (fun _ => rfl) rfl ?_
      refine gx_get rfl s351.1 rfl s351.2.2.1 rfl ?_
      refine gx_1f (c := .le) rfl (by omega) (show ¬ (f351 ≤ 0) from by omega) rfl ?_
      refine ex_ret (r := (none, t351, n, 0)) rfl (fun _ => rfl) ?_
      have hT263 := rT_keep (t' := t351) hT (fun c i h => e351 c i (by omega))
      have h9 : ∀ w, w = 1 ∨ w = 2 ∨ w = 4 ∨ w = 8 ∨ w = 12 ∨ w = 15 ∨ w = 17 ∨ w = 11 ∨ w = 20 ∨ w = 21 ∨ w = 22 → ¬ sp_wd S m N a w := by
        intro w hw z
        rcases (show (w = 1 ∨ w = 2 ∨ w = 4 ∨ w = 8 ∨ w = 12 ∨ w = 15 ∨ w = 17) ∨ w = 11 ∨ (w = 20 + (w - 20) ∧ w - 20 < 3) by omega) with h | h | ⟨h, h8⟩
        · exact hno w h z
        · rw [h] at z; exact absurd (q2.2.mpr ⟨rfl, z⟩) (by omega)
        · rw [h] at z; exact hwb (w - 20) h8 ⟨rfl, z⟩
      have e9 : (a351, f351) = fx S m 1 a := by unfold fx; rw [show a351 = a by omega, show f351 = 1 + 16 * sp_st S m a by omega]
      exact ⟨_, rfl, t351, a351, f351, rfl, s351, hT263, σ, Or.inr (Or.inr (Or.inr (Or.inr (Or.inr (Or.inr (Or.inr (Or.inr (Or.inr (⟨h9, e9, rfl⟩))))))))), by omega, fun h0 => by omega⟩
  · refine gx_1f (c := .eq) rfl (by omega) hc4 rfl ?_
    refine ex_go (S := (10, [(0, gx_r 383)], [.inl 3], t0, n, 0)) rfl (fun _ => rfl) rfl ?_
    refine ex_go (S := (20, [(0, gx_r 383)], [.inl 3], t0, n, 0)) rfl (fun _ => rfl) rfl ?_
    refine ex_go (S := (21, [(1, .inl 3), (0, gx_r 383)], [], t0, n, 0)) rfl (fun _ => rfl) rfl ?_
    refine ex_go (S := (22, [(1, .inl 3), (0, gx_r 383)], [.inl 3], t0, n, 0)) rfl (fun _ => rfl) rfl ?_
    refine ex_go (S := (33, [(1, .inl 3), (0, gx_r 383)], [], t0, n, 0)) rfl (fun _ => rfl) rfl ?_
    refine ex_go (S := (34, [(1, .inl 3), (0, gx_r 383)], [.inl 3], t0, n, 0)) rfl (fun _ => rfl) rfl ?_
    refine ex_go (S := (35, [(1, .inl 3), (0, gx_r 383)], [.inl 3, .inl 3], t0, n, 0)) rfl (fun _ => rfl) rfl ?_
    refine ex_go (S := (38, [(1, .inl 3), (0, gx_r 383)], [], t0, n, 0)) rfl (fun _ => rfl) rfl ?_
    refine ex_go (S := (39, [(1, .inl 3), (0, gx_r 383)], [gx_r 383], t0, n, 0)) rfl (fun _ => rfl) rfl ?_
    refine gx_get rfl s0.1 rfl kk8 rfl ?_
    by_cases hc264 : σ 8 0 = 0
    · refine gx_1t (c := .eq) rfl (by omega) hc264 rfl ?_
      refine ex_go (S := (67, [(1, .inl 3), (0, gx_r 383)], [gx_r 383], t0, n, 0)) rfl (fun _ => rfl) rfl ?_
      refine gx_get rfl s0.1 rfl s0.2.2.1 rfl ?_
      refine ex_go (S := (74, [(1, .inl 3), (0, gx_r 383)], [], t0, n, 0)) rfl (fun _ => rfl) rfl ?_
      refine ex_go (S := (75, [(1, .inl 3), (0, gx_r 383)], [gx_r 383], t0, n, 0)) rfl (fun _ => rfl) rfl ?_
      refine ex_go (S := (76, [(1, .inl 3), (0, gx_r 383)], [gx_r 383, gx_r 383], t0, n, 0)) rfl (fun _ => rfl) rfl ?_
      refine gx_get rfl s0.1 rfl s0.2.1 rfl ?_
      refine ex_go (S := (80, [(1, .inl 3), (0, gx_r 383)], [.inl 1, .inl a, gx_r 383], t0, n, 0)) rfl (fun _ => rfl) rfl ?_
      refine ex_iadd rfl (by omega) rfl ?_
      refine gx_put rfl s0.1 rfl rfl (ai_in_h (by omega) (by omega) (by omega)) rfl (fun t365 g365 k365 e365 => ?_)
      have k266 : ai_hv t365 389 160 = some (.inl (σ 0 0)) := (e365 389 160 (by omega)).trans kk0
      have k267 : ai_hv t365 389 161 = some (.inl (σ 1 0)) := (e365 389 161 (by omega)).trans kk1
      have k268 : ai_hv t365 389 162 = some (.inl (σ 2 0)) := (e365 389 162 (by omega)).trans kk2
      have k269 : ai_hv t365 389 163 = some (.inl (σ 3 0)) := (e365 389 163 (by omega)).trans kk3
      have k270 : ai_hv t365 389 164 = some (.inl (σ 4 0)) := (e365 389 164 (by omega)).trans kk4
      have k271 : ai_hv t365 389 166 = some (.inl (σ 5 0)) := (e365 389 166 (by omega)).trans kk5
      have k272 : ai_hv t365 389 167 = some (.inl (σ 6 0)) := (e365 389 167 (by omega)).trans kk6
      have k273 : ai_hv t365 389 168 = some (.inl (σ 7 0)) := (e365 389 168 (by omega)).trans kk7
      have k274 : ai_hv t365 383 20 = some (.inl (σ 8 0)) := (e365 383 20 (by omega)).trans kk8
      have k275 : ai_hv t365 383 19 = some (.inl (σ 15 0)) := (e365 383 19 (by omega)).trans kk9
      have k276 : ai_hv t365 383 13 = some (.inl c) := (e365 383 13 (by omega)).trans kc
      have s365 : px_S t365 (a + 1) 0 := ⟨g365, k365, (e365 383 8 (by omega)).trans s0.2.2.1, by omega, s0.2.2.2.2⟩
      refine ex_go (S := (85, [(1, .inl 3), (0, gx_r 383)], [.inl 3], t365, n, 0)) rfl (fun _ => rfl) rfl ?_
      refine ex_go (S := (86, [(1, .inl 3), (0, gx_r 383)], [.inl 3, .inl 3], t365, n, 0)) rfl (fun _ => rfl) rfl ?_
      refine ex_go (S := (89, [(1, .inl 3), (0, gx_r 383)], [], t365, n, 0)) rfl (fun _ => rfl) rfl ?_
      refine ex_go (S := (90, [(1, .inl 3), (0, gx_r 383)], [gx_r 383], t365, n, 0)) rfl (fun _ => rfl) rfl ?_
      refine ex_go (S := (91, [(1, .inl 3), (0, gx_r 383)], [.inl 1, gx_r 383], t365, n, 0)) rfl (fun _ => rfl) rfl ?_
      refine gx_put rfl s365.1 rfl rfl (ai_in_h (by omega) (by omega) (by omega)) rfl (fun t377 g377 k377 e377 => ?_)
      have k278 : ai_hv t377 389 160 = some (.inl (σ 0 0)) := (e377 389 160 (by omega)).trans k266
      have k279 : ai_hv t377 389 161 = some (.inl (σ 1 0)) := (e377 389 161 (by omega)).trans k267
      have k280 : ai_hv t377 389 162 = some (.inl (σ 2 0)) := (e377 389 162 (by omega)).trans k268
      have k281 : ai_hv t377 389 163 = some (.inl (σ 3 0)) := (e377 389 163 (by omega)).trans k269
      have k282 : ai_hv t377 389 164 = some (.inl (σ 4 0)) := (e377 389 164 (by omega)).trans k270
      have k283 : ai_hv t377 389 166 = some (.inl (σ 5 0)) := (e377 389 166 (by omega)).trans k271
      have k284 : ai_hv t377 389 167 = some (.inl (σ 6 0)) := (e377 389 167 (by omega)).trans k272
      have k285 : ai_hv t377 389 168 = some (.inl (σ 7 0)) := (e377 389 168 (by omega)).trans k273
      have k286 : ai_hv t377 383 19 = some (.inl (σ 15 0)) := (e377 383 19 (by omega)).trans k275
      have k287 : ai_hv t377 383 13 = some (.inl c) := (e377 383 13 (by omega)).trans k276
      have s377 : px_S t377 (a + 1) 0 := ⟨g377, (e377 383 7 (by omega)).trans s365.2.1, (e377 383 8 (by omega)).trans s365.2.2.1, s365.2.2.2⟩
      refine ex_go (S := (95, [(1, .inl 3), (0, gx_r 383)], [gx_r 383], t377, n, 0)) rfl (fun _ => rfl) rfl ?_
      refine gx_ref (c := 389) rfl s377.1 rfl rfl rfl rfl ?_
      refine ex_go (S := (101, [(1, .inl 3), (0, gx_r 383)], [.inl 165, gx_r 389], t377, n, 0)) rfl (fun _ => rfl) rfl ?_
      refine ex_go (S := (102, [(1, .inl 3), (0, gx_r 383)], [gx_r 383, .inl 165, gx_r 389], t377, n, 0)) rfl (fun _ => rfl) rfl ?_
      refine ex_go (S := (103, [(1, .inl 3), (0, gx_r 383)], [.inl 1, gx_r 383, .inl 165, gx_r 389], t377, n, 0)) rfl (fun _ => rfl) rfl ?_
      refine ex_go (S := (104, [(1, .inl 3), (0, gx_r 383)], [.inl 4, .inl 1, gx_r 383, .inl 165, gx_r 389], t377, n, 0)) rfl (fun _ => rfl) rfl ?_
      have hT289 := rT_keep (t' := t377) hT (fun c i h => (e377 c i (by omega)).trans (e365 c i (by omega)))
      obtain ⟨_, r388, v388, t388, a388, f388, rfl, s388, e388, z388, q388⟩ := pf_takeNumber (d + 30) n (s377) hT289 (by omega) (lo := 1) (hi := 4) (by omega) (by omega)
      have b388 := s388.2.2.2
      have y388 := z388.trans (congrArg (fn S m N 1 4) (fr_yes (S := S) (m := m) (w := 3) (a := a) (show ¬ σ 8 0 ≠ 0 by omega)).symm)
      refine gx_call1 rfl rfl s377.1 rfl rfl r388 rfl ?_
      have k290 : ai_hv t388 389 160 = some (.inl (σ 0 0)) := (e388 389 160 (by omega)).trans k278
      have k291 : ai_hv t388 389 161 = some (.inl (σ 1 0)) := (e388 389 161 (by omega)).trans k279
      have k292 : ai_hv t388 389 162 = some (.inl (σ 2 0)) := (e388 389 162 (by omega)).trans k280
      have k293 : ai_hv t388 389 163 = some (.inl (σ 3 0)) := (e388 389 163 (by omega)).trans k281
      have k294 : ai_hv t388 389 164 = some (.inl (σ 4 0)) := (e388 389 164 (by omega)).trans k282
      have k295 : ai_hv t388 389 166 = some (.inl (σ 5 0)) := (e388 389 166 (by omega)).trans k283
      have k296 : ai_hv t388 389 167 = some (.inl (σ 6 0)) := (e388 389 167 (by omega)).trans k284
      have k297 : ai_hv t388 389 168 = some (.inl (σ 7 0)) := (e388 389 168 (by omega)).trans k285
      have k298 : ai_hv t388 383 19 = some (.inl (σ 15 0)) := (e388 383 19 (by omega)).trans k286
      have k299 : ai_hv t388 383 13 = some (.inl c) := (e388 383 13 (by omega)).trans k287
      have k300 : ai_hv t388 383 20 = some (.inl 1) := (e388 383 20 (by omega)).trans k377
      refine gx_ap rfl (fun _ => rfl) s388.1 rfl rfl rfl (show 165 < 320 from by omega) rfl (ai_in_h (by omega) (by omega) (by omega)) rfl (fun t401 g401 k401 e401 => ?_)
      have k302 : ai_hv t401 389 160 = some (.inl (σ 0 0)) := (e401 389 160 (by omega)).trans k290
      have k303 : ai_hv t401 389 161 = some (.inl (σ 1 0)) := (e401 389 161 (by omega)).trans k291
      have k304 : ai_hv t401 389 162 = some (.inl (σ 2 0)) := (e401 389 162 (by omega)).trans k292
      have k305 : ai_hv t401 389 163 = some (.inl (σ 3 0)) := (e401 389 163 (by omega)).trans k293
      have k306 : ai_hv t401 389 164 = some (.inl (σ 4 0)) := (e401 389 164 (by omega)).trans k294
      have k307 : ai_hv t401 389 166 = some (.inl (σ 5 0)) := (e401 389 166 (by omega)).trans k295
      have k308 : ai_hv t401 389 167 = some (.inl (σ 6 0)) := (e401 389 167 (by omega)).trans k296
      have k309 : ai_hv t401 389 168 = some (.inl (σ 7 0)) := (e401 389 168 (by omega)).trans k297
      have k310 : ai_hv t401 383 19 = some (.inl (σ 15 0)) := (e401 383 19 (by omega)).trans k298
      have k311 : ai_hv t401 383 13 = some (.inl c) := (e401 383 13 (by omega)).trans k299
      have k312 : ai_hv t401 383 20 = some (.inl 1) := (e401 383 20 (by omega)).trans k300
      have s401 : px_S t401 a388 f388 := ⟨g401, (e401 383 7 (by omega)).trans s388.2.1, (e401 383 8 (by omega)).trans s388.2.2.1, s388.2.2.2⟩
      refine ex_go (S := (160, [(1, .inl 3), (0, gx_r 383)], [], t401, n, 0)) rfl (fun _ => rfl) rfl ?_
      refine ex_ret (r := (none, t401, n, 0)) rfl (fun _ => rfl) ?_
      have hT313 := rT_keep (t' := t401) hT (fun c i h => (e401 c i (by omega)).trans ((e388 c i (by omega)).trans ((e377 c i (by omega)).trans (e365 c i (by omega)))))
      refine ⟨_, rfl, t401, a388, f388, rfl, s401, hT313, _, Or.inr (Or.inr (Or.inr (Or.inr (Or.inr (Or.inr (Or.inr (Or.inl (⟨(q2.2.mp (by omega)).2, y388, rfl⟩)))))))), by omega, fun h0 => ⟨by omega, ?_⟩⟩
      have xk314 : rows t401 389 236 3 (σ 2 0) (σ 10) := rows_keep hRk (fun i hi => (e401 389 (236 + 3 * i) (by omega)).trans ((e388 389 (236 + 3 * i) (by omega)).trans ((e377 389 (236 + 3 * i) (by omega)).trans (e365 389 (236 + 3 * i) (by omega)))))
      have xk315 : rows t401 389 254 4 (σ 3 0) (σ 11) := rows_keep hRl (fun i hi => (e401 389 (254 + 4 * i) (by omega)).trans ((e388 389 (254 + 4 * i) (by omega)).trans ((e377 389 (254 + 4 * i) (by omega)).trans (e365 389 (254 + 4 * i) (by omega)))))
      have xk316 : rows t401 389 278 3 (σ 4 0) (σ 12) := rows_keep hRs (fun i hi => (e401 389 (278 + 3 * i) (by omega)).trans ((e388 389 (278 + 3 * i) (by omega)).trans ((e377 389 (278 + 3 * i) (by omega)).trans (e365 389 (278 + 3 * i) (by omega)))))
      exact ⟨⟨k302, k303, k304, k305, k306, k307, k308, k309, k312, k310⟩, fun k hk => by
          rcases hRL k hk with ⟨h1, h2⟩ | ⟨h1, z, h2, h3⟩
          · exact Or.inl ⟨h1, ((e401 389 (169 + k) (by omega)).trans ((e388 389 (169 + k) (by omega)).trans ((e377 389 (169 + k) (by omega)).trans (e365 389 (169 + k) (by omega))))).trans h2⟩
          · exact Or.inr ⟨h1, z, ((e401 389 (169 + k) (by omega)).trans ((e388 389 (169 + k) (by omega)).trans ((e377 389 (169 + k) (by omega)).trans (e365 389 (169 + k) (by omega))))).trans h2, h3⟩, xk314, xk315, xk316, fun k hk => ⟨((e401 393 k (by omega)).trans ((e388 393 k (by omega)).trans ((e377 393 k (by omega)).trans (e365 393 k (by omega))))).trans (hRN k hk).1, ((e401 395 k (by omega)).trans ((e388 395 k (by omega)).trans ((e377 395 k (by omega)).trans (e365 395 k (by omega))))).trans (hRN k hk).2⟩⟩
    · refine gx_1f (c := .eq) rfl (by omega) hc264 rfl ?_
      refine ex_go (S := (61, [(1, .inl 3), (0, gx_r 383)], [], t0, n, 0)) rfl (fun _ => rfl) rfl ?_
      refine ex_go (S := (62, [(1, .inl 3), (0, gx_r 383)], [gx_r 383], t0, n, 0)) rfl (fun _ => rfl) rfl ?_
      refine ex_go (S := (63, [(1, .inl 3), (0, gx_r 383)], [.inl 3, gx_r 383], t0, n, 0)) rfl (fun _ => rfl) rfl ?_
      obtain ⟨_, r417, t417, a417, f417, rfl, s417, e417, q417⟩ := pe_wrong (d + 31) n (s0) hT (by omega) (w := 3) (by omega)
      have b417 := s417.2.2.2
      have hT417 := rT_keep hT (fun c i h => e417 c i (by omega))
      refine gx_call0 rfl rfl s0.1 rfl rfl r417 rfl ?_
      have k318 : ai_hv t417 389 160 = some (.inl (σ 0 0)) := (e417 389 160 (by omega)).trans kk0
      have k319 : ai_hv t417 389 161 = some (.inl (σ 1 0)) := (e417 389 161 (by omega)).trans kk1
      have k320 : ai_hv t417 389 162 = some (.inl (σ 2 0)) := (e417 389 162 (by omega)).trans kk2
      have k321 : ai_hv t417 389 163 = some (.inl (σ 3 0)) := (e417 389 163 (by omega)).trans kk3
      have k322 : ai_hv t417 389 164 = some (.inl (σ 4 0)) := (e417 389 164 (by omega)).trans kk4
      have k323 : ai_hv t417 389 166 = some (.inl (σ 5 0)) := (e417 389 166 (by omega)).trans kk5
      have k324 : ai_hv t417 389 167 = some (.inl (σ 6 0)) := (e417 389 167 (by omega)).trans kk6
      have k325 : ai_hv t417 389 168 = some (.inl (σ 7 0)) := (e417 389 168 (by omega)).trans kk7
      have k326 : ai_hv t417 383 20 = some (.inl (σ 8 0)) := (e417 383 20 (by omega)).trans kk8
      have k327 : ai_hv t417 383 19 = some (.inl (σ 15 0)) := (e417 383 19 (by omega)).trans kk9
      have k328 : ai_hv t417 383 13 = some (.inl c) := (e417 383 13 (by omega)).trans kc
      refine ex_go (S := (67, [(1, .inl 3), (0, gx_r 383)], [gx_r 383], t417, n, 0)) rfl (fun _ => rfl) rfl ?_
      refine gx_get rfl s417.1 rfl s417.2.2.1 rfl ?_
      refine gx_1f (c := .le) rfl (by omega) (show ¬ (f417 ≤ 0) from by omega) rfl ?_
      refine ex_ret (r := (none, t417, n, 0)) rfl (fun _ => rfl) ?_
      have hT329 := rT_keep (t' := t417) hT (fun c i h => e417 c i (by omega))
      have e9 : (a417, f417) = sl_pace S m N σ a := by
        rw [show a417 = a by omega, show f417 = 3 + 16 * sp_st S m a by omega]
        unfold sl_pace
        have h5 : 3 + 16 * sp_st S m a ≠ 0 := by omega
        rw [fr_w (show σ 8 0 ≠ 0 by omega), fn_no h5]
      exact ⟨_, rfl, t417, a417, f417, rfl, s417, hT329, _, Or.inr (Or.inr (Or.inr (Or.inr (Or.inr (Or.inr (Or.inr (Or.inl (⟨(q2.2.mp (by omega)).2, e9, rfl⟩)))))))), by omega, fun h0 => by omega⟩
theorem pe_readLine (d n : Nat) {t0 : en_H} {a c : Nat} {S : Nat → Nat} {m N : Nat} {σ : Nat → Nat → Nat} (s0 : px_S t0 a 0) (hT : rT t0 S m N) (ha : a < N) (hA : RA t0 S m σ) (hB : WB σ) (hK : NK S m N σ) (kc : ai_hv t0 383 13 = some (.inl c)) (hca : c ≤ a) : ∃ r, en_u (d + 34) 97 [gx_r 383] t0 n = some r ∧ ∃ t' a' f', r = (none, t', n, 0) ∧ px_S t' a' f' ∧ rT t' S m N ∧ ∃ τ, Ln S m N σ a (a', f') τ ∧ a' ≤ N ∧ (f' = 0 → a < a' ∧ RA t' S m τ) := by
  have b0 := s0.2.2.2
  refine en_u_ex (d := d + 33) rfl ?_
  show en_ex _ _ _ _ (0, [(0, gx_r 383)], [], t0, n, 0) _
  refine ex_go (S := (1, [(0, gx_r 383)], [gx_r 383], t0, n, 0)) rfl (fun _ => rfl) rfl ?_
  refine ex_go (S := (2, [(0, gx_r 383)], [.inl 1, gx_r 383], t0, n, 0)) rfl (fun _ => rfl) rfl ?_
  obtain ⟨_, r3, b1, rfl, q2⟩ := pe_isWord (d + 32) n (s0) hT (by omega) (w := 1) (by omega)
  refine gx_call1 rfl rfl s0.1 rfl rfl r3 rfl ?_
  by_cases hc4 : b1 = 0
  · refine gx_1t (c := .eq) rfl (by omega) hc4 rfl ?_
    refine ex_go (S := (16, [(0, gx_r 383)], [gx_r 383], t0, n, 0)) rfl (fun _ => rfl) rfl ?_
    refine ex_go (S := (17, [(0, gx_r 383)], [.inl 2, gx_r 383], t0, n, 0)) rfl (fun _ => rfl) rfl ?_
    obtain ⟨_, r7, b5, rfl, q6⟩ := pe_isWord (d + 32) n (s0) hT (by omega) (w := 2) (by omega)
    refine gx_call1 rfl rfl s0.1 rfl rfl r7 rfl ?_
    by_cases hc8 : b5 = 0
    · refine gx_1t (c := .eq) rfl (by omega) hc8 rfl ?_
      refine ex_go (S := (31, [(0, gx_r 383)], [gx_r 383], t0, n, 0)) rfl (fun _ => rfl) rfl ?_
      refine ex_go (S := (32, [(0, gx_r 383)], [.inl 4, gx_r 383], t0, n, 0)) rfl (fun _ => rfl) rfl ?_
      obtain ⟨_, r11, b9, rfl, q10⟩ := pe_isWord (d + 32) n (s0) hT (by omega) (w := 4) (by omega)
      refine gx_call1 rfl rfl s0.1 rfl rfl r11 rfl ?_
      by_cases hc12 : b9 = 0
      · refine gx_1t (c := .eq) rfl (by omega) hc12 rfl ?_
        refine ex_go (S := (46, [(0, gx_r 383)], [gx_r 383], t0, n, 0)) rfl (fun _ => rfl) rfl ?_
        refine ex_go (S := (48, [(0, gx_r 383)], [.inl 8, gx_r 383], t0, n, 0)) rfl (fun _ => rfl) rfl ?_
        obtain ⟨_, r15, b13, rfl, q14⟩ := pe_isWord (d + 32) n (s0) hT (by omega) (w := 8) (by omega)
        refine gx_call1 rfl rfl s0.1 rfl rfl r15 rfl ?_
        by_cases hc16 : b13 = 0
        · refine gx_1t (c := .eq) rfl (by omega) hc16 rfl ?_
          refine ex_go (S := (62, [(0, gx_r 383)], [gx_r 383], t0, n, 0)) rfl (fun _ => rfl) rfl ?_
          refine ex_go (S := (64, [(0, gx_r 383)], [.inl 12, gx_r 383], t0, n, 0)) rfl (fun _ => rfl) rfl ?_
          obtain ⟨_, r19, b17, rfl, q18⟩ := pe_isWord (d + 32) n (s0) hT (by omega) (w := 12) (by omega)
          refine gx_call1 rfl rfl s0.1 rfl rfl r19 rfl ?_
          by_cases hc20 : b17 = 0
          · refine gx_1t (c := .eq) rfl (by omega) hc20 rfl ?_
            refine ex_go (S := (78, [(0, gx_r 383)], [gx_r 383], t0, n, 0)) rfl (fun _ => rfl) rfl ?_
            refine ex_go (S := (80, [(0, gx_r 383)], [.inl 15, gx_r 383], t0, n, 0)) rfl (fun _ => rfl) rfl ?_
            obtain ⟨_, r23, b21, rfl, q22⟩ := pe_isWord (d + 32) n (s0) hT (by omega) (w := 15) (by omega)
            refine gx_call1 rfl rfl s0.1 rfl rfl r23 rfl ?_
            by_cases hc24 : b21 = 0
            · refine gx_1t (c := .eq) rfl (by omega) hc24 rfl ?_
              refine ex_go (S := (94, [(0, gx_r 383)], [gx_r 383], t0, n, 0)) rfl (fun _ => rfl) rfl ?_
              refine ex_go (S := (96, [(0, gx_r 383)], [.inl 17, gx_r 383], t0, n, 0)) rfl (fun _ => rfl) rfl ?_
              obtain ⟨_, r27, b25, rfl, q26⟩ := pe_isWord (d + 32) n (s0) hT (by omega) (w := 17) (by omega)
              refine gx_call1 rfl rfl s0.1 rfl rfl r27 rfl ?_
              by_cases hc28 : b25 = 0
              · refine gx_1t (c := .eq) rfl (by omega) hc28 rfl ?_
                refine ex_go (S := (110, [(0, gx_r 383)], [gx_r 383], t0, n, 0)) rfl (fun _ => rfl) rfl ?_
                have hno : ∀ w, w = 1 ∨ w = 2 ∨ w = 4 ∨ w = 8 ∨ w = 12 ∨ w = 15 ∨ w = 17 → ¬ sp_wd S m N a w := by
                  intro w hw z
                  rcases hw with rfl | rfl | rfl | rfl | rfl | rfl | rfl
                  · exact absurd (q2.2.mpr ⟨rfl, z⟩) (by omega)
                  · exact absurd (q6.2.mpr ⟨rfl, z⟩) (by omega)
                  · exact absurd (q10.2.mpr ⟨rfl, z⟩) (by omega)
                  · exact absurd (q14.2.mpr ⟨rfl, z⟩) (by omega)
                  · exact absurd (q18.2.mpr ⟨rfl, z⟩) (by omega)
                  · exact absurd (q22.2.mpr ⟨rfl, z⟩) (by omega)
                  · exact absurd (q26.2.mpr ⟨rfl, z⟩) (by omega)
                obtain ⟨_, r129, t129, a129, f129, rfl, z129⟩ := pe_readOnce (d) n s0 hT ha hA hB hK kc hca hno
                refine gx_call0 rfl rfl s0.1 rfl rfl r129 rfl ?_
                refine ex_ret (r := (none, t129, n, 0)) rfl (fun _ => rfl) ?_
                exact ⟨_, rfl, t129, a129, f129, rfl, z129⟩
              · refine gx_1f (c := .eq) rfl (by omega) hc28 rfl ?_
                refine ex_go (S := (103, [(0, gx_r 383)], [gx_r 383], t0, n, 0)) rfl (fun _ => rfl) rfl ?_
                obtain ⟨_, r130, t130, a130, f130, rfl, s130, z130, e130, y130⟩ := pe_readLoad (d + 28) n s0 hT ha hA hB hK
                refine gx_call0 rfl rfl s0.1 rfl rfl r130 rfl ?_
                refine ex_go (S := (113, [(0, gx_r 383)], [], t130, n, 0)) rfl (fun _ => rfl) rfl ?_
                refine ex_ret (r := (none, t130, n, 0)) rfl (fun _ => rfl) ?_
                exact ⟨_, rfl, t130, a130, f130, rfl, s130, z130, sn_load σ a, Or.inr (Or.inr (Or.inr (Or.inr (Or.inr (Or.inr (Or.inl (⟨(q26.2.mp (by omega)).2, e130, rfl⟩))))))), y130⟩
            · refine gx_1f (c := .eq) rfl (by omega) hc24 rfl ?_
              refine ex_go (S := (87, [(0, gx_r 383)], [gx_r 383], t0, n, 0)) rfl (fun _ => rfl) rfl ?_
              obtain ⟨_, r131, t131, a131, f131, rfl, s131, z131, e131, y131⟩ := pe_readSign (d + 28) n s0 hT ha hA hB hK
              refine gx_call0 rfl rfl s0.1 rfl rfl r131 rfl ?_
              refine ex_go (S := (113, [(0, gx_r 383)], [], t131, n, 0)) rfl (fun _ => rfl) rfl ?_
              refine ex_ret (r := (none, t131, n, 0)) rfl (fun _ => rfl) ?_
              exact ⟨_, rfl, t131, a131, f131, rfl, s131, z131, sn_sign σ a, Or.inr (Or.inr (Or.inr (Or.inr (Or.inr (Or.inl (⟨(q22.2.mp (by omega)).2, e131, rfl⟩)))))), y131⟩
          · refine gx_1f (c := .eq) rfl (by omega) hc20 rfl ?_
            refine ex_go (S := (71, [(0, gx_r 383)], [gx_r 383], t0, n, 0)) rfl (fun _ => rfl) rfl ?_
            obtain ⟨_, r132, t132, a132, f132, rfl, s132, z132, e132, y132⟩ := pe_readGap (d + 28) n s0 hT ha hA hB hK
            refine gx_call0 rfl rfl s0.1 rfl rfl r132 rfl ?_
            refine ex_go (S := (113, [(0, gx_r 383)], [], t132, n, 0)) rfl (fun _ => rfl) rfl ?_
            refine ex_ret (r := (none, t132, n, 0)) rfl (fun _ => rfl) ?_
            exact ⟨_, rfl, t132, a132, f132, rfl, s132, z132, sn_gap σ a, Or.inr (Or.inr (Or.inr (Or.inr (Or.inl (⟨(q18.2.mp (by omega)).2, e132, rfl⟩))))), y132⟩
        · refine gx_1f (c := .eq) rfl (by omega) hc16 rfl ?_
          refine ex_go (S := (55, [(0, gx_r 383)], [gx_r 383], t0, n, 0)) rfl (fun _ => rfl) rfl ?_
          obtain ⟨_, r133, t133, a133, f133, rfl, s133, z133, e133, y133⟩ := pe_readCrew (d + 28) n s0 hT ha hA hB hK
          refine gx_call0 rfl rfl s0.1 rfl rfl r133 rfl ?_
          refine ex_go (S := (113, [(0, gx_r 383)], [], t133, n, 0)) rfl (fun _ => rfl) rfl ?_
          refine ex_ret (r := (none, t133, n, 0)) rfl (fun _ => rfl) ?_
          exact ⟨_, rfl, t133, a133, f133, rfl, s133, z133, sn_crew S m σ a, Or.inr (Or.inr (Or.inr (Or.inl (⟨(q14.2.mp (by omega)).2, e133, rfl⟩)))), y133⟩
      · refine gx_1f (c := .eq) rfl (by omega) hc12 rfl ?_
        refine ex_go (S := (39, [(0, gx_r 383)], [gx_r 383], t0, n, 0)) rfl (fun _ => rfl) rfl ?_
        obtain ⟨_, r134, t134, a134, f134, rfl, s134, z134, e134, y134⟩ := pe_readLead (d + 28) n s0 hT ha hA hB hK
        refine gx_call0 rfl rfl s0.1 rfl rfl r134 rfl ?_
        refine ex_go (S := (113, [(0, gx_r 383)], [], t134, n, 0)) rfl (fun _ => rfl) rfl ?_
        refine ex_ret (r := (none, t134, n, 0)) rfl (fun _ => rfl) ?_
        exact ⟨_, rfl, t134, a134, f134, rfl, s134, z134, sn_lead S m σ a, Or.inr (Or.inr (Or.inl (⟨(q10.2.mp (by omega)).2, e134, rfl⟩))), y134⟩
    · refine gx_1f (c := .eq) rfl (by omega) hc8 rfl ?_
      refine ex_go (S := (24, [(0, gx_r 383)], [gx_r 383], t0, n, 0)) rfl (fun _ => rfl) rfl ?_
      obtain ⟨_, r135, t135, a135, f135, rfl, s135, z135, e135, y135⟩ := pe_readThing (d + 28) n s0 hT ha hA hB hK
      refine gx_call0 rfl rfl s0.1 rfl rfl r135 rfl ?_
      refine ex_go (S := (113, [(0, gx_r 383)], [], t135, n, 0)) rfl (fun _ => rfl) rfl ?_
      refine ex_ret (r := (none, t135, n, 0)) rfl (fun _ => rfl) ?_
      exact ⟨_, rfl, t135, a135, f135, rfl, s135, z135, sn_thing S m N σ a, Or.inr (Or.inl (⟨(q6.2.mp (by omega)).2, e135, rfl⟩)), y135⟩
  · refine gx_1f (c := .eq) rfl (by omega) hc4 rfl ?_
    refine ex_go (S := (9, [(0, gx_r 383)], [gx_r 383], t0, n, 0)) rfl (fun _ => rfl) rfl ?_
    obtain ⟨_, r136, t136, a136, f136, rfl, s136, z136, e136, y136⟩ := pe_readDrift (d + 28) n s0 hT ha hA hB hK
    refine gx_call0 rfl rfl s0.1 rfl rfl r136 rfl ?_
    refine ex_go (S := (113, [(0, gx_r 383)], [], t136, n, 0)) rfl (fun _ => rfl) rfl ?_
    refine ex_ret (r := (none, t136, n, 0)) rfl (fun _ => rfl) ?_
    exact ⟨_, rfl, t136, a136, f136, rfl, s136, z136, σ, Or.inl (⟨(q2.2.mp (by omega)).2, e136, rfl⟩), y136⟩
theorem pe_pack_l (d n : Nat) {tb : en_H} {S : Nat → Nat} {m N K : Nat} {σ0 : Nat → Nat → Nat} {p0 : Nat × Nat} {Q : en_O → Prop} (hQ : ∀ t1 a1 f1, px_S t1 a1 f1 → (f1 = 0 → ∃ c, px_O t1 c ∧ c ≤ a1) → ai_hv t1 383 2 = some (.inl 0) → Pk S m N K σ0 p0 f1 → en_ex none (en_u (d + 34)) (en_code 33) (fun _ => false) (104, [(0, gx_r 383)], [], t1, n, 0) Q) : ∀ j σ t0 a f, (f = 0 → 1000 ≤ a + j) → px_S t0 a f → rT t0 S m N → a ≤ N → (f = 0 → ((∃ c, px_O t0 c ∧ c ≤ a) ∧ RA t0 S m σ ∧ W3 S m N σ)) → ai_hv t0 383 2 = some (.inl 0) → (∀ f1, Pk S m N (j + 1) σ (a, f) f1 → Pk S m N K σ0 p0 f1) → en_ex none (en_u (d + 34)) (en_code 33) (fun _ => false) (72, [(0, gx_r 383)], [], t0, n, 0) Q := by
  intro j
  induction j with
  | zero =>
    intro σ t0 a f hj s0 hT ha hO kz2 hP
    have b0 := s0.2.2.2
    have hN := hT.2.2.2.2.1
    refine ex_go (S := (73, [(0, gx_r 383)], [gx_r 383], t0, n, 0)) rfl (fun _ => rfl) rfl ?_
    refine gx_get rfl s0.1 rfl s0.2.2.1 rfl ?_
    by_cases hc1 : f ≠ 0
    · refine gx_1t (c := .ne) rfl (by omega) hc1 rfl ?_
      refine hQ t0 a f s0 (fun z => by omega) kz2 (hP _ (Or.inl ⟨by show f ≠ 0; omega, rfl⟩))
    · refine gx_1f (c := .ne) rfl (by omega) hc1 rfl ?_
      refine ex_go (S := (80, [(0, gx_r 383)], [gx_r 383], t0, n, 0)) rfl (fun _ => rfl) rfl ?_
      refine gx_ref (c := 385) rfl s0.1 rfl rfl rfl rfl ?_
      refine ex_go (S := (84, [(0, gx_r 383)], [gx_r 383, gx_r 385], t0, n, 0)) rfl (fun _ => rfl) rfl ?_
      refine gx_get rfl s0.1 rfl s0.2.1 rfl ?_
      have k2 := rT_sort hT (a := a) (by omega)
      have k2b : sp_kt S m N a ≤ 4 := by unfold sp_kt; have := sp_ty_le S m (sp_st S m a); split <;> omega
      refine gx_ag (v := .inl (sp_kt S m N a)) (cb := fun c => Nat.beq c 0) rfl (fun _ => rfl) s0.1 rfl rfl k2 (by omega) rfl ?_
      by_cases hc3 : sp_kt S m N a = 0
      · refine gx_1t (c := .eq) rfl (by omega) hc3 rfl ?_
        have hf0 : f = 0 := by omega
        subst hf0
        exact hQ t0 a 0 s0 (fun z => (hO rfl).1) kz2 (hP _ (Or.inr (Or.inl ⟨rfl, sp_kt_0 (S := S) (m := m) (by omega), rfl⟩)))
      · refine gx_1f (c := .eq) rfl (by omega) hc3 rfl ?_
        exfalso
        have := sp_kt_lt (S := S) (m := m) (N := N) (a := a) (by omega)
        omega
  | succ j ih =>
    intro σ t0 a f hj s0 hT ha hO kz2 hP
    have b0 := s0.2.2.2
    have hN := hT.2.2.2.2.1
    refine ex_go (S := (73, [(0, gx_r 383)], [gx_r 383], t0, n, 0)) rfl (fun _ => rfl) rfl ?_
    refine gx_get rfl s0.1 rfl s0.2.2.1 rfl ?_
    by_cases hc1 : f ≠ 0
    · refine gx_1t (c := .ne) rfl (by omega) hc1 rfl ?_
      refine hQ t0 a f s0 (fun z => by omega) kz2 (hP _ (Or.inl ⟨by show f ≠ 0; omega, rfl⟩))
    · refine gx_1f (c := .ne) rfl (by omega) hc1 rfl ?_
      refine ex_go (S := (80, [(0, gx_r 383)], [gx_r 383], t0, n, 0)) rfl (fun _ => rfl) rfl ?_
      refine gx_ref (c := 385) rfl s0.1 rfl rfl rfl rfl ?_
      refine ex_go (S := (84, [(0, gx_r 383)], [gx_r 383, gx_r 385], t0, n, 0)) rfl (fun _ => rfl) rfl ?_
      refine gx_get rfl s0.1 rfl s0.2.1 rfl ?_
      have k2 := rT_sort hT (a := a) (by omega)
      have k2b : sp_kt S m N a ≤ 4 := by unfold sp_kt; have := sp_ty_le S m (sp_st S m a); split <;> omega
      refine gx_ag (v := .inl (sp_kt S m N a)) (cb := fun c => Nat.beq c 0) rfl (fun _ => rfl) s0.1 rfl rfl k2 (by omega) rfl ?_
      by_cases hc3 : sp_kt S m N a = 0
      · refine gx_1t (c := .eq) rfl (by omega) hc3 rfl ?_
        have hf0 : f = 0 := by omega
        subst hf0
        exact hQ t0 a 0 s0 (fun z => (hO rfl).1) kz2 (hP _ (Or.inr (Or.inl ⟨rfl, sp_kt_0 (S := S) (m := m) (by omega), rfl⟩)))
      · refine gx_1f (c := .eq) rfl (by omega) hc3 rfl ?_
        refine ex_go (S := (92, [(0, gx_r 383)], [gx_r 383], t0, n, 0)) rfl (fun _ => rfl) rfl ?_
        obtain ⟨⟨cL, hcL, hcLa⟩, hRA, hW3⟩ := hO (by omega)
        have sL : px_S t0 a 0 := by rw [← show f = 0 by omega]; exact s0
        have haN := sp_kt_lt (S := S) (m := m) (N := N) (a := a) (by omega)
        have kcL : ai_hv t0 383 13 = some (.inl cL) := by
          obtain ⟨r, nt, ng, ns, nl, ov, dn, pa, -, -, -, -, -, -, -, -, kc9, -⟩ := hcL
          exact kc9
        obtain ⟨_, r104, t104, a104, f104, rfl, s104, e104, q104⟩ := pk_readLine d n sL (by omega) hcLa hcL
        obtain ⟨_, r104x, t104x, a104x, f104x, hre, s104x, hT104, τ, hLn, haN104, qx104⟩ := pe_readLine d n sL hT haN hRA hW3.1 hW3.2.1 kcL hcLa
        have hte : t104 = t104x := by
          have h9 := Option.some.inj (r104x.symm.trans r104)
          rw [hre] at h9
          exact (congrArg (fun z => z.2.1) h9).symm
        subst hte
        have hae : a104 = a104x := (Sum.inl.inj (Option.some.inj (s104x.2.1.symm.trans s104.2.1))).symm
        have hfe : f104 = f104x := (Sum.inl.inj (Option.some.inj (s104x.2.2.1.symm.trans s104.2.2.1))).symm
        subst hae hfe
        have b104 := s104.2.2.2
        refine gx_call0 rfl rfl s0.1 rfl rfl r104 rfl ?_
        have k5 : ai_hv t104 383 2 = some (.inl 0) := (e104 383 2 (by omega)).trans kz2
        have k6 : ai_hv t104 385 a = some (.inl (sp_kt S m N a)) := (e104 385 a (by omega)).trans k2
        refine ex_go (S := (96, [(0, gx_r 383)], [gx_r 383], t104, n, 0)) rfl (fun _ => rfl) rfl ?_
        refine ex_go (S := (98, [(0, gx_r 383)], [.inl 59, gx_r 383], t104, n, 0)) rfl (fun _ => rfl) rfl ?_
        obtain ⟨_, r107, t107, a107, f107, rfl, s107, e107, z107, q107⟩ := pf_takeSign (d + 32) n (s104) hT104 (by omega) (w := 59) (by omega)
        have b107 := s107.2.2.2
        have hT107 := rT_keep hT104 (fun c i h => e107 c i (by omega))
        refine gx_call0 rfl rfl s104.1 rfl rfl r107 rfl ?_
        have k8 : ai_hv t107 383 2 = some (.inl 0) := (e107 383 2 (by omega)).trans k5
        have k9 : ai_hv t107 385 a = some (.inl (sp_kt S m N a)) := (e107 385 a (by omega)).trans k6
        refine ex_go (S := (72, [(0, gx_r 383)], [], t107, n, 0)) rfl (fun _ => rfl) rfl ?_
        refine ih τ t107 a107 f107 (fun h9 => ?_) s107 hT107 (by omega) (fun h9 => ?_) k8 (fun f1 h1 => hP f1 (Or.inr (Or.inr ⟨by show f = 0; omega, haN, (a104, f104), τ, hLn, by rw [← z107]; exact h1⟩)))
        · have h8 := (q104 (by omega)).1
          omega
        · obtain ⟨h8, c9, o9, l9⟩ := q104 (by omega)
          refine ⟨⟨c9, px_O_F o9 e107, by omega⟩, RA_F (qx104 (by omega)).2 e107, W3_Ln hW3 hLn (by show f104 = 0; omega)⟩
end SPQ
