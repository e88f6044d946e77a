section SPQ
theorem upk_9 {σ : Nat → Nat → Nat} {k v : Nat} : up (up σ 9 k 1) 24 k v 9 k = 1 := by
  show (bif Nat.beq 9 9 && Nat.beq k k then 1 else σ 9 k) = 1
  rw [bq_t k]; rfl
theorem upl_9 {σ : Nat → Nat → Nat} {k v l : Nat} (h : l ≠ k) : up (up σ 9 k 1) 24 k v 9 l = σ 9 l := by
  show (bif Nat.beq 9 9 && Nat.beq l k then 1 else σ 9 l) = σ 9 l
  rw [bq_f h]; rfl
theorem upk_24 {σ : Nat → Nat → Nat} {k v : Nat} : up (up σ 9 k 1) 24 k v 24 k = v := by
  show (bif Nat.beq 24 24 && Nat.beq k k then v else up σ 9 k 1 24 k) = v
  rw [bq_t k]; rfl
theorem upl_24 {σ : Nat → Nat → Nat} {k v l : Nat} (h : l ≠ k) : up (up σ 9 k 1) 24 k v 24 l = σ 24 l := by
  show (bif Nat.beq 24 24 && Nat.beq l k then v else σ 24 l) = σ 24 l
  rw [bq_f h]; rfl
theorem RLw_up {t t' : en_H} {σ : Nat → Nat → Nat} {k c v : Nat} (h : RLw t σ) (e : ∀ l, l < 3 → l ≠ k → ai_hv t' 389 (169 + l) = ai_hv t 389 (169 + l)) (h1 : ai_hv t' 389 (169 + k) = some (.inl c)) (hc : c ≤ 1100) : RLw t' (up (up σ 9 k 1) 24 k v) := fun l hl => by
  by_cases e1 : l = k
  · subst e1
    exact Or.inr ⟨upk_9, c, h1, hc⟩
  · rw [upl_9 e1]
    rcases h l hl with ⟨z1, z2⟩ | ⟨z1, z, z2, z3⟩
    · exact Or.inl ⟨z1, (e l hl e1).trans z2⟩
    · exact Or.inr ⟨z1, z, (e l hl e1).trans z2, z3⟩
/-- the laws' codes in the reference's draft, of c codes -/
noncomputable def RCw (t : en_H) (S : Nat → Nat) (m N : Nat) (σ : Nat → Nat → Nat) (c : Nat) : Prop := ∀ l, l < 3 → σ 9 l = 1 → ∃ z L, ai_hv t 389 (169 + l) = some (.inl z) ∧ Ec S m N (sp_fh l) 0 0 (σ 24 l, 0) L ∧ rLs t (sp_fh l) z L ∧ ai_hv t 390 (1100 + (z + L.length)) = some (.inl 0) ∧ z + L.length + 1 ≤ c
theorem RCw_keep {t t' : en_H} {S : Nat → Nat} {m N c c' : Nat} {σ τ : Nat → Nat → Nat} (h : RCw t S m N σ c) (hc : c ≤ c') (e1 : ∀ l, l < 3 → τ 9 l = 1 → σ 9 l = 1 ∧ τ 24 l = σ 24 l) (e2 : ∀ l, l < 3 → ai_hv t' 389 (169 + l) = ai_hv t 389 (169 + l)) (e3 : ∀ c8 i, (c8 = 390 ∨ c8 = 391) → i < 1100 + c → ai_hv t' c8 i = ai_hv t c8 i) : RCw t' S m N τ c' := by
  intro l hl h9
  obtain ⟨h8, h7⟩ := e1 l hl h9
  obtain ⟨z, L, q1, q2, q3, q4, q5⟩ := h l hl h8
  refine ⟨z, L, (e2 l hl).trans q1, ?_, rLs_keep q3 (fun c8 i h8 h7 => e3 c8 i h8 (by first | decide | omega)), (e3 390 _ (Or.inl rfl) (by first | decide | omega)).trans q4, by omega⟩
  rw [h7]; exact q2
theorem RCw_up {t t' : en_H} {S : Nat → Nat} {m N k a c c1 : Nat} {σ : Nat → Nat → Nat} {L : List Nat} (h : RCw t S m N σ c) (e1 : ∀ l, l < 3 → l ≠ k → ai_hv t' 389 (169 + l) = ai_hv t 389 (169 + l)) (e2 : ∀ c8 i, (c8 = 390 ∨ c8 = 391) → i < 1100 + c → ai_hv t' c8 i = ai_hv t c8 i) (h1 : ai_hv t' 389 (169 + k) = some (.inl c)) (h2 : Ec S m N (sp_fh k) 0 0 (a, 0) L) (h3 : rLs t' (sp_fh k) c L) (h4 : ai_hv t' 390 (1100 + (c + L.length)) = some (.inl 0)) (h5 : c + L.length + 1 ≤ c1) : RCw t' S m N (up (up σ 9 k 1) 24 k a) c1 := by
  intro l hl h9
  by_cases e9 : l = k
  · subst e9
    refine ⟨c, L, h1, ?_, h3, h4, h5⟩
    rw [upk_24]; exact h2
  · rw [upl_9 e9] at h9
    obtain ⟨z, L', q1, q2, q3, q4, q5⟩ := h l hl h9
    refine ⟨z, L', (e1 l hl e9).trans q1, ?_, rLs_keep q3 (fun c8 i h8 h7 => e2 c8 i h8 (by first | decide | omega)), (e2 390 _ (Or.inl rfl) (by first | decide | omega)).trans q4, by omega⟩
    rw [upl_24 e9]; exact q2
theorem px_O_c {t : en_H} {c : Nat} (h : px_O t c) : ai_hv t 383 13 = some (.inl c) := by
  obtain ⟨r, nt, ng, ns, nl, ov, dn, pa, -, -, -, -, -, -, -, -, kc9, -⟩ := h
  exact kc9
theorem RA_F {t t' : en_H} {S : Nat → Nat} {m : Nat} {σ : Nat → Nat → Nat} (h : RA t S m σ) (e : px_F t t') : RA t' S m σ := by
  obtain ⟨⟨k0, k1, k2, k3, k4, k5, k6, k7, k8, k9⟩, hRL, hRk, hRl, hRs, hRN, hb0, hb1, hb2, hb3, hb4, hb5, hb6, hb7, hb8, hb9, hb10, hb11, hb12, hb13⟩ := h
  refine ⟨⟨(e _ _ (by first | decide | omega)).trans k0, (e _ _ (by first | decide | omega)).trans k1, (e _ _ (by first | decide | omega)).trans k2, (e _ _ (by first | decide | omega)).trans k3, (e _ _ (by first | decide | omega)).trans k4, (e _ _ (by first | decide | omega)).trans k5, (e _ _ (by first | decide | omega)).trans k6, (e _ _ (by first | decide | omega)).trans k7, (e _ _ (by first | decide | omega)).trans k8, (e _ _ (by first | decide | omega)).trans k9⟩, fun k hk => ?_, rows_keep hRk (fun i hi => e _ _ (by first | decide | omega)), rows_keep hRl (fun i hi => e _ _ (by first | decide | omega)), rows_keep hRs (fun i hi => e _ _ (by first | decide | omega)), (fun k hk => ⟨(e _ _ (by first | decide | omega)).trans (hRN k hk).1, (e _ _ (by first | decide | omega)).trans (hRN k hk).2⟩), rows_keep hb0 (fun i hi => e _ _ (by first | decide | omega)), rows_keep hb1 (fun i hi => e _ _ (by first | decide | omega)), rows_keep hb2 (fun i hi => e _ _ (by first | decide | omega)), rows_keep hb3 (fun i hi => e _ _ (by first | decide | omega)), rows_keep hb4 (fun i hi => e _ _ (by first | decide | omega)), rows_keep hb5 (fun i hi => e _ _ (by first | decide | omega)), rows_keep hb6 (fun i hi => e _ _ (by first | decide | omega)), rows_keep hb7 (fun i hi => e _ _ (by first | decide | omega)), rows_keep hb8 (fun i hi => e _ _ (by first | decide | omega)), rows_keep hb9 (fun i hi => e _ _ (by first | decide | omega)), rows_keep hb10 (fun i hi => e _ _ (by first | decide | omega)), rows_keep hb11 (fun i hi => e _ _ (by first | decide | omega)), (e _ _ (by first | decide | omega)).trans hb12, rows_keep hb13 (fun i hi => e _ _ (by first | decide | omega))⟩
  rcases hRL k hk with ⟨z1, z2⟩ | ⟨z1, z, z2, z3⟩
  · exact Or.inl ⟨z1, (e _ _ (by first | decide | omega)).trans z2⟩
  · exact Or.inr ⟨z1, z, (e _ _ (by first | decide | omega)).trans z2, z3⟩
theorem sp_kt_0 {S : Nat → Nat} {m N a : Nat} (h : sp_kt S m N a = 0) : N ≤ a := by
  unfold sp_kt at h
  by_cases c : a < N
  · rw [if_pos c] at h
    have := sp_ty_le S m (sp_st S m a)
    omega
  · omega
theorem pe_readOnce (d n : Nat) {t0 : en_H} {a c : Nat} {S : Nat → Nat} {m N : Nat} {σ : Nat → Nat → Nat} (s0 : px_S t0 a 0) (hT : rT t0 S m N) (ha : a < N) (hA : RA t0 S m σ) (hB : WB σ) (hK : NK S m N σ) (kc : ai_hv t0 383 13 = some (.inl c)) (hca : c ≤ a) (hC : RCw t0 S m N σ c) (hno : ∀ w, w = 1 ∨ w = 2 ∨ w = 4 ∨ w = 8 ∨ w = 12 ∨ w = 15 ∨ w = 17 → ¬ sp_wd S m N a w) : ∃ r, en_u (d + 33) 193 [gx_r 383] t0 n = some r ∧ ∃ t' a' f', r = (none, t', n, 0) ∧ px_S t' a' f' ∧ rT t' S m N ∧ ∃ τ, Ln S m N σ a (a', f') τ ∧ a' ≤ N ∧ (f' = 0 → a < a' ∧ RA t' S m τ ∧ ∃ c', ai_hv t' 383 13 = some (.inl c') ∧ RCw t' S m N τ c') := by
  have b0 := s0.2.2.2
  have hN := hT.2.2.2.2.1
  obtain ⟨⟨kk0, kk1, kk2, kk3, kk4, kk5, kk6, kk7, kk8, kk9⟩, hRL, hRk, hRl, hRs, hRN, hb0, hb1, hb2, hb3, hb4, hb5, hb6, hb7, hb8, hb9, hb10, hb11, hb12, hb13⟩ := hA
  have hBB := hB.1
  refine en_u_ex (d := d + 32) rfl ?_
  show en_ex _ _ _ _ (0, [(0, gx_r 383)], [], t0, n, 0) _
  refine ex_go (S := (1, [(0, gx_r 383)], [gx_r 383], t0, n, 0)) rfl (fun _ => rfl) rfl ?_
  refine ex_go (S := (3, [(0, gx_r 383)], [.inl 11, gx_r 383], t0, n, 0)) rfl (fun _ => rfl) rfl ?_
  obtain ⟨_, r3, b1, rfl, q2⟩ := pe_isWord (d + 31) n (s0) hT (by first | decide | omega) (w := 11) (by first | decide | omega)
  refine gx_call1 rfl rfl s0.1 rfl rfl r3 rfl ?_
  by_cases hc4 : b1 = 0
  · refine gx_1t (c := .eq) rfl (by first | decide | omega) hc4 rfl ?_
    refine ex_go (S := (14, [(0, gx_r 383)], [gx_r 383], t0, n, 0)) rfl (fun _ => rfl) rfl ?_
    refine ex_go (S := (16, [(0, gx_r 383)], [.inl 20, gx_r 383], t0, n, 0)) rfl (fun _ => rfl) rfl ?_
    refine ex_go (S := (17, [(0, gx_r 383)], [.inl 3, .inl 20, gx_r 383], t0, n, 0)) rfl (fun _ => rfl) rfl ?_
    obtain ⟨_, r7, b5, rfl, q6⟩ := pe_wordHere (d + 30) n (s0) hT (by first | decide | omega) (w := 20) (mm := 3) (by first | decide | omega)
    refine gx_call1 rfl rfl s0.1 rfl rfl r7 rfl ?_
    rcases q6 with ⟨hwa, hwb, hwc⟩ | ⟨hwa, hwb⟩
    · refine ex_go (S := (21, [(1, .inl b5), (0, gx_r 383)], [], t0, n, 0)) rfl (fun _ => rfl) rfl ?_
      rcases (show b5 = 0 ∨ b5 = 1 ∨ b5 = 2 by omega) with e9 | e9 | e9
      · subst e9
        refine ex_go (S := (22, [(1, .inl 0), (0, gx_r 383)], [.inl 0], t0, n, 0)) rfl (fun _ => rfl) rfl ?_
        refine ex_go (S := (33, [(1, .inl 0), (0, gx_r 383)], [], t0, n, 0)) rfl (fun _ => rfl) rfl ?_
        refine ex_go (S := (34, [(1, .inl 0), (0, gx_r 383)], [.inl 0], t0, n, 0)) rfl (fun _ => rfl) rfl ?_
        refine ex_go (S := (35, [(1, .inl 0), (0, gx_r 383)], [.inl 3, .inl 0], t0, n, 0)) rfl (fun _ => rfl) rfl ?_
        refine ex_go (S := (48, [(1, .inl 0), (0, gx_r 383)], [], t0, n, 0)) rfl (fun _ => rfl) rfl ?_
        refine ex_go (S := (49, [(1, .inl 0), (0, gx_r 383)], [gx_r 383], t0, n, 0)) rfl (fun _ => rfl) rfl ?_
        refine gx_ref (c := 389) rfl s0.1 rfl rfl rfl rfl ?_
        refine ex_go (S := (55, [(1, .inl 0), (0, gx_r 383)], [.inl 169, gx_r 389], t0, n, 0)) rfl (fun _ => rfl) rfl ?_
        refine ex_go (S := (56, [(1, .inl 0), (0, gx_r 383)], [.inl 0, .inl 169, gx_r 389], t0, n, 0)) rfl (fun _ => rfl) rfl ?_
        refine ex_go (S := (57, [(1, .inl 0), (0, gx_r 383)], [.inl 169, gx_r 389], t0, n, 0)) rfl (fun _ => rfl) rfl ?_
        rcases hRL 0 (by first | decide | omega) with ⟨hz1, hz2⟩ | ⟨hz1, sv, hz2, hz3⟩
        · have hz4 : ai_hv t0 389 169 = some (.inl 4294967295) := (rfl).trans hz2
          refine gx_ag (v := .inl 4294967295) (cb := fun c => Nat.beq c 0) rfl (fun _ => rfl) s0.1 rfl rfl hz4 (by first | decide | omega) rfl ?_
          refine ex_go (S := (66, [(1, .inl 0), (0, gx_r 383)], [], t0, n, 0)) rfl (fun _ => rfl) rfl ?_
          refine ex_go (S := (67, [(1, .inl 0), (0, gx_r 383)], [gx_r 383], t0, n, 0)) rfl (fun _ => rfl) rfl ?_
          refine gx_get rfl s0.1 rfl s0.2.2.1 rfl ?_
          refine ex_go (S := (74, [(1, .inl 0), (0, gx_r 383)], [], t0, n, 0)) rfl (fun _ => rfl) rfl ?_
          refine ex_go (S := (75, [(1, .inl 0), (0, gx_r 383)], [gx_r 383], t0, n, 0)) rfl (fun _ => rfl) rfl ?_
          refine ex_go (S := (76, [(1, .inl 0), (0, gx_r 383)], [gx_r 383, gx_r 383], t0, n, 0)) rfl (fun _ => rfl) rfl ?_
          refine gx_get rfl s0.1 rfl s0.2.1 rfl ?_
          refine ex_go (S := (80, [(1, .inl 0), (0, gx_r 383)], [.inl 1, .inl a, gx_r 383], t0, n, 0)) rfl (fun _ => rfl) rfl ?_
          refine ex_iadd rfl (by first | decide | omega) rfl ?_
          refine gx_put rfl s0.1 rfl rfl (ai_in_h (by first | decide | omega) (by first | decide | omega) (by first | decide | omega)) rfl (fun t108 g108 k108 e108 => ?_)
          have k9 : ai_hv t108 389 160 = some (.inl (σ 0 0)) := (e108 389 160 (by first | decide | omega)).trans kk0
          have k10 : ai_hv t108 389 161 = some (.inl (σ 1 0)) := (e108 389 161 (by first | decide | omega)).trans kk1
          have k11 : ai_hv t108 389 162 = some (.inl (σ 2 0)) := (e108 389 162 (by first | decide | omega)).trans kk2
          have k12 : ai_hv t108 389 163 = some (.inl (σ 3 0)) := (e108 389 163 (by first | decide | omega)).trans kk3
          have k13 : ai_hv t108 389 164 = some (.inl (σ 4 0)) := (e108 389 164 (by first | decide | omega)).trans kk4
          have k14 : ai_hv t108 389 166 = some (.inl (σ 5 0)) := (e108 389 166 (by first | decide | omega)).trans kk5
          have k15 : ai_hv t108 389 167 = some (.inl (σ 6 0)) := (e108 389 167 (by first | decide | omega)).trans kk6
          have k16 : ai_hv t108 389 168 = some (.inl (σ 7 0)) := (e108 389 168 (by first | decide | omega)).trans kk7
          have k17 : ai_hv t108 383 20 = some (.inl (σ 8 0)) := (e108 383 20 (by first | decide | omega)).trans kk8
          have k18 : ai_hv t108 383 19 = some (.inl (σ 15 0)) := (e108 383 19 (by first | decide | omega)).trans kk9
          have k19 : ai_hv t108 383 13 = some (.inl c) := (e108 383 13 (by first | decide | omega)).trans kc
          have k20 : ai_hv t108 389 169 = some (.inl 4294967295) := (e108 389 169 (by first | decide | omega)).trans hz4
          have s108 : px_S t108 (a + 1) 0 := ⟨g108, k108, (e108 383 8 (by first | decide | omega)).trans s0.2.2.1, by omega, s0.2.2.2.2⟩
          refine ex_go (S := (85, [(1, .inl 0), (0, gx_r 383)], [.inl 0], t108, n, 0)) rfl (fun _ => rfl) rfl ?_
          refine ex_go (S := (86, [(1, .inl 0), (0, gx_r 383)], [.inl 3, .inl 0], t108, n, 0)) rfl (fun _ => rfl) rfl ?_
          refine ex_go (S := (111, [(1, .inl 0), (0, gx_r 383)], [], t108, n, 0)) rfl (fun _ => rfl) rfl ?_
          refine ex_go (S := (112, [(1, .inl 0), (0, gx_r 383)], [gx_r 383], t108, n, 0)) rfl (fun _ => rfl) rfl ?_
          refine gx_ref (c := 389) rfl s108.1 rfl rfl rfl rfl ?_
          refine ex_go (S := (118, [(1, .inl 0), (0, gx_r 383)], [.inl 169, gx_r 389], t108, n, 0)) rfl (fun _ => rfl) rfl ?_
          refine ex_go (S := (119, [(1, .inl 0), (0, gx_r 383)], [.inl 0, .inl 169, gx_r 389], t108, n, 0)) rfl (fun _ => rfl) rfl ?_
          refine ex_go (S := (120, [(1, .inl 0), (0, gx_r 383)], [.inl 169, gx_r 389], t108, n, 0)) rfl (fun _ => rfl) rfl ?_
          refine ex_go (S := (121, [(1, .inl 0), (0, gx_r 383)], [gx_r 383, .inl 169, gx_r 389], t108, n, 0)) rfl (fun _ => rfl) rfl ?_
          refine gx_get rfl s108.1 rfl k19 rfl ?_
          refine gx_ap rfl (fun _ => rfl) s108.1 rfl rfl rfl (show 169 < 320 from by omega) (px_run_law 0 (by first | decide | omega) (by first | decide | omega)) (ai_in_h (by first | decide | omega) (by first | decide | omega) (by first | decide | omega)) rfl (fun t121 g121 k121 e121 => ?_)
          have k22 : ai_hv t121 389 160 = some (.inl (σ 0 0)) := (e121 389 160 (by first | decide | omega)).trans k9
          have k23 : ai_hv t121 389 161 = some (.inl (σ 1 0)) := (e121 389 161 (by first | decide | omega)).trans k10
          have k24 : ai_hv t121 389 162 = some (.inl (σ 2 0)) := (e121 389 162 (by first | decide | omega)).trans k11
          have k25 : ai_hv t121 389 163 = some (.inl (σ 3 0)) := (e121 389 163 (by first | decide | omega)).trans k12
          have k26 : ai_hv t121 389 164 = some (.inl (σ 4 0)) := (e121 389 164 (by first | decide | omega)).trans k13
          have k27 : ai_hv t121 389 166 = some (.inl (σ 5 0)) := (e121 389 166 (by first | decide | omega)).trans k14
          have k28 : ai_hv t121 389 167 = some (.inl (σ 6 0)) := (e121 389 167 (by first | decide | omega)).trans k15
          have k29 : ai_hv t121 389 168 = some (.inl (σ 7 0)) := (e121 389 168 (by first | decide | omega)).trans k16
          have k30 : ai_hv t121 383 20 = some (.inl (σ 8 0)) := (e121 383 20 (by first | decide | omega)).trans k17
          have k31 : ai_hv t121 383 19 = some (.inl (σ 15 0)) := (e121 383 19 (by first | decide | omega)).trans k18
          have k32 : ai_hv t121 383 13 = some (.inl c) := (e121 383 13 (by first | decide | omega)).trans k19
          have s121 : px_S t121 (a + 1) 0 := ⟨g121, (e121 383 7 (by first | decide | omega)).trans s108.2.1, (e121 383 8 (by first | decide | omega)).trans s108.2.2.1, s108.2.2.2⟩
          refine ex_go (S := (126, [(1, .inl 0), (0, gx_r 383)], [gx_r 383], t121, n, 0)) rfl (fun _ => rfl) rfl ?_
          refine ex_go (S := (127, [(1, .inl 0), (0, gx_r 383)], [.inl 0, gx_r 383], t121, n, 0)) rfl (fun _ => rfl) rfl ?_
          refine ex_go (S := (130, [(1, .inl 0), (0, gx_r 383)], [gx_r 383], t121, n, 0)) rfl (fun _ => rfl) rfl ?_
          refine ex_go (S := (132, [(1, .inl 0), (0, gx_r 383)], [.inl 7, gx_r 383], t121, n, 0)) rfl (fun _ => rfl) rfl ?_
          refine ex_go (S := (146, [(1, .inl 0), (0, gx_r 383)], [.inl 7, gx_r 383], t121, n, 0)) rfl (fun _ => rfl) rfl ?_
          refine gx_put rfl s121.1 rfl rfl (ai_in_h (by first | decide | omega) (by first | decide | omega) (by first | decide | omega)) rfl (fun t133 g133 k133 e133 => ?_)
          have k34 : ai_hv t133 389 160 = some (.inl (σ 0 0)) := (e133 389 160 (by first | decide | omega)).trans k22
          have k35 : ai_hv t133 389 161 = some (.inl (σ 1 0)) := (e133 389 161 (by first | decide | omega)).trans k23
          have k36 : ai_hv t133 389 162 = some (.inl (σ 2 0)) := (e133 389 162 (by first | decide | omega)).trans k24
          have k37 : ai_hv t133 389 163 = some (.inl (σ 3 0)) := (e133 389 163 (by first | decide | omega)).trans k25
          have k38 : ai_hv t133 389 164 = some (.inl (σ 4 0)) := (e133 389 164 (by first | decide | omega)).trans k26
          have k39 : ai_hv t133 389 166 = some (.inl (σ 5 0)) := (e133 389 166 (by first | decide | omega)).trans k27
          have k40 : ai_hv t133 389 167 = some (.inl (σ 6 0)) := (e133 389 167 (by first | decide | omega)).trans k28
          have k41 : ai_hv t133 389 168 = some (.inl (σ 7 0)) := (e133 389 168 (by first | decide | omega)).trans k29
          have k42 : ai_hv t133 383 20 = some (.inl (σ 8 0)) := (e133 383 20 (by first | decide | omega)).trans k30
          have k43 : ai_hv t133 383 19 = some (.inl (σ 15 0)) := (e133 383 19 (by first | decide | omega)).trans k31
          have k44 : ai_hv t133 383 13 = some (.inl c) := (e133 383 13 (by first | decide | omega)).trans k32
          have k45 : ai_hv t133 389 169 = some (.inl c) := (e133 389 169 (by first | decide | omega)).trans k121
          have s133 : px_S t133 (a + 1) 0 := ⟨g133, (e133 383 7 (by first | decide | omega)).trans s121.2.1, (e133 383 8 (by first | decide | omega)).trans s121.2.2.1, s121.2.2.2⟩
          refine ex_go (S := (150, [(1, .inl 0), (0, gx_r 383)], [gx_r 383], t133, n, 0)) rfl (fun _ => rfl) rfl ?_
          refine ex_go (S := (151, [(1, .inl 0), (0, gx_r 383)], [.inl 0, gx_r 383], t133, n, 0)) rfl (fun _ => rfl) rfl ?_
          have hT47 := rT_keep (t' := t133) hT (fun c i h => (e133 c i (by first | decide | omega)).trans ((e121 c i (by first | decide | omega)).trans (e108 c i (by first | decide | omega))))
          obtain ⟨_, r146, t146, a146, f146, c146, rfl, x146, w146, wa146, y146⟩ := pe_all0 (S := S) (m := m) (N := N) (fh := 7) (by first | decide | omega) d n _ _ _ _ s133 hT47 (by first | decide | omega) k44 (by first | decide | omega) k133
          have s146 := x146.1
          have e146 := x146.2.1
          have k146 := x146.2.2.1
          have q146 := x146.2.2.2.1
          have b146 := s146.2.2.2
          refine gx_call0 rfl rfl s133.1 rfl rfl r146 rfl ?_
          have k48 : ai_hv t146 389 160 = some (.inl (σ 0 0)) := (e146 389 160 (by first | decide | omega)).trans k34
          have k49 : ai_hv t146 389 161 = some (.inl (σ 1 0)) := (e146 389 161 (by first | decide | omega)).trans k35
          have k50 : ai_hv t146 389 162 = some (.inl (σ 2 0)) := (e146 389 162 (by first | decide | omega)).trans k36
          have k51 : ai_hv t146 389 163 = some (.inl (σ 3 0)) := (e146 389 163 (by first | decide | omega)).trans k37
          have k52 : ai_hv t146 389 164 = some (.inl (σ 4 0)) := (e146 389 164 (by first | decide | omega)).trans k38
          have k53 : ai_hv t146 389 166 = some (.inl (σ 5 0)) := (e146 389 166 (by first | decide | omega)).trans k39
          have k54 : ai_hv t146 389 167 = some (.inl (σ 6 0)) := (e146 389 167 (by first | decide | omega)).trans k40
          have k55 : ai_hv t146 389 168 = some (.inl (σ 7 0)) := (e146 389 168 (by first | decide | omega)).trans k41
          have k56 : ai_hv t146 383 20 = some (.inl (σ 8 0)) := (e146 383 20 (by first | decide | omega)).trans k42
          have k57 : ai_hv t146 383 19 = some (.inl (σ 15 0)) := (e146 383 19 (by first | decide | omega)).trans k43
          have k58 : ai_hv t146 389 169 = some (.inl c) := (e146 389 169 (by first | decide | omega)).trans k45
          refine ex_go (S := (155, [(1, .inl 0), (0, gx_r 383)], [gx_r 383], t146, n, 0)) rfl (fun _ => rfl) rfl ?_
          refine ex_go (S := (156, [(1, .inl 0), (0, gx_r 383)], [.inl 0, gx_r 383], t146, n, 0)) rfl (fun _ => rfl) rfl ?_
          refine ex_go (S := (157, [(1, .inl 0), (0, gx_r 383)], [.inl 0, .inl 0, gx_r 383], t146, n, 0)) rfl (fun _ => rfl) rfl ?_
          obtain ⟨_, r159, t159, rfl, s159, e159, k159, ko159, kz159⟩ := pk_emit (d + 31) n (s146) (o := 0) (z := 0) (by first | decide | omega) (by first | decide | omega) (by first | decide | omega) k146
          have b159 := s159.2.2.2
          refine gx_call0 rfl rfl s146.1 rfl rfl r159 rfl ?_
          have k60 : ai_hv t159 389 160 = some (.inl (σ 0 0)) := (e159 389 160 (by first | decide | omega)).trans k48
          have k61 : ai_hv t159 389 161 = some (.inl (σ 1 0)) := (e159 389 161 (by first | decide | omega)).trans k49
          have k62 : ai_hv t159 389 162 = some (.inl (σ 2 0)) := (e159 389 162 (by first | decide | omega)).trans k50
          have k63 : ai_hv t159 389 163 = some (.inl (σ 3 0)) := (e159 389 163 (by first | decide | omega)).trans k51
          have k64 : ai_hv t159 389 164 = some (.inl (σ 4 0)) := (e159 389 164 (by first | decide | omega)).trans k52
          have k65 : ai_hv t159 389 166 = some (.inl (σ 5 0)) := (e159 389 166 (by first | decide | omega)).trans k53
          have k66 : ai_hv t159 389 167 = some (.inl (σ 6 0)) := (e159 389 167 (by first | decide | omega)).trans k54
          have k67 : ai_hv t159 389 168 = some (.inl (σ 7 0)) := (e159 389 168 (by first | decide | omega)).trans k55
          have k68 : ai_hv t159 383 20 = some (.inl (σ 8 0)) := (e159 383 20 (by first | decide | omega)).trans k56
          have k69 : ai_hv t159 383 19 = some (.inl (σ 15 0)) := (e159 383 19 (by first | decide | omega)).trans k57
          have k70 : ai_hv t159 389 169 = some (.inl c) := (e159 389 169 (by first | decide | omega)).trans k58
          refine ex_ret (r := (none, t159, n, 0)) rfl (fun _ => rfl) ?_
          have hT71 := rT_keep (t' := t159) hT (fun c i h => (e159 c i (by first | decide | omega)).trans ((e146 c i (by first | decide | omega)).trans ((e133 c i (by first | decide | omega)).trans ((e121 c i (by first | decide | omega)).trans (e108 c i (by first | decide | omega))))))
          have e9 : Ev S m N (sp_fh 0) 0 0 (fr S m (σ 9 0 ≠ 0) 3 (a, 0)) (a146, f146) := by
            rw [fr_yes (show ¬ σ 9 0 ≠ 0 by omega)]
            exact w146
          refine ⟨_, rfl, t159, a146, f146, rfl, s159, hT71, _, Or.inr (Or.inr (Or.inr (Or.inr (Or.inr (Or.inr (Or.inr (Or.inr (Or.inl (⟨0, by omega, (show sp_wd S m N a (20 + 0) from hwc), e9, rfl⟩))))))))), by omega, fun h0 => ⟨by omega, ?_⟩⟩
          have xb72 : rows t159 389 237 3 (σ 2 0) (fun i => sp_nv S m (σ 16 i + 3)) := rows_keep hb0 (fun i hi => (e159 389 (237 + 3 * i) (by first | decide | omega)).trans ((e146 389 (237 + 3 * i) (by first | decide | omega)).trans ((e133 389 (237 + 3 * i) (by first | decide | omega)).trans ((e121 389 (237 + 3 * i) (by first | decide | omega)).trans (e108 389 (237 + 3 * i) (by first | decide | omega))))))
          have xb73 : rows t159 389 238 3 (σ 2 0) (fun i => sp_nv S m (σ 16 i + 4)) := rows_keep hb1 (fun i hi => (e159 389 (238 + 3 * i) (by first | decide | omega)).trans ((e146 389 (238 + 3 * i) (by first | decide | omega)).trans ((e133 389 (238 + 3 * i) (by first | decide | omega)).trans ((e121 389 (238 + 3 * i) (by first | decide | omega)).trans (e108 389 (238 + 3 * i) (by first | decide | omega))))))
          have xb74 : rows t159 389 255 4 (σ 3 0) (fun i => sp_nv S m (σ 20 i + 4)) := rows_keep hb2 (fun i hi => (e159 389 (255 + 4 * i) (by first | decide | omega)).trans ((e146 389 (255 + 4 * i) (by first | decide | omega)).trans ((e133 389 (255 + 4 * i) (by first | decide | omega)).trans ((e121 389 (255 + 4 * i) (by first | decide | omega)).trans (e108 389 (255 + 4 * i) (by first | decide | omega))))))
          have xb75 : rows t159 389 256 4 (σ 3 0) (fun i => sp_nv S m (σ 20 i + 6)) := rows_keep hb3 (fun i hi => (e159 389 (256 + 4 * i) (by first | decide | omega)).trans ((e146 389 (256 + 4 * i) (by first | decide | omega)).trans ((e133 389 (256 + 4 * i) (by first | decide | omega)).trans ((e121 389 (256 + 4 * i) (by first | decide | omega)).trans (e108 389 (256 + 4 * i) (by first | decide | omega))))))
          have xb76 : rows t159 389 257 4 (σ 3 0) (fun i => sp_nv S m (σ 20 i + 8)) := rows_keep hb4 (fun i hi => (e159 389 (257 + 4 * i) (by first | decide | omega)).trans ((e146 389 (257 + 4 * i) (by first | decide | omega)).trans ((e133 389 (257 + 4 * i) (by first | decide | omega)).trans ((e121 389 (257 + 4 * i) (by first | decide | omega)).trans (e108 389 (257 + 4 * i) (by first | decide | omega))))))
          have xb77 : rows t159 389 279 3 (σ 4 0) (fun i => sp_nv S m (σ 21 i + 3)) := rows_keep hb5 (fun i hi => (e159 389 (279 + 3 * i) (by first | decide | omega)).trans ((e146 389 (279 + 3 * i) (by first | decide | omega)).trans ((e133 389 (279 + 3 * i) (by first | decide | omega)).trans ((e121 389 (279 + 3 * i) (by first | decide | omega)).trans (e108 389 (279 + 3 * i) (by first | decide | omega))))))
          have xb78 : rows t159 389 280 3 (σ 4 0) (fun i => sp_nv S m (σ 21 i + 5)) := rows_keep hb6 (fun i hi => (e159 389 (280 + 3 * i) (by first | decide | omega)).trans ((e146 389 (280 + 3 * i) (by first | decide | omega)).trans ((e133 389 (280 + 3 * i) (by first | decide | omega)).trans ((e121 389 (280 + 3 * i) (by first | decide | omega)).trans (e108 389 (280 + 3 * i) (by first | decide | omega))))))
          have xb79 : rows t159 389 284 2 (σ 5 0) (fun i => sp_nv S m (σ 17 i + 2)) := rows_keep hb7 (fun i hi => (e159 389 (284 + 2 * i) (by first | decide | omega)).trans ((e146 389 (284 + 2 * i) (by first | decide | omega)).trans ((e133 389 (284 + 2 * i) (by first | decide | omega)).trans ((e121 389 (284 + 2 * i) (by first | decide | omega)).trans (e108 389 (284 + 2 * i) (by first | decide | omega))))))
          have xb80 : rows t159 389 285 2 (σ 5 0) (fun i => sp_nv S m (σ 17 i + 4)) := rows_keep hb8 (fun i hi => (e159 389 (285 + 2 * i) (by first | decide | omega)).trans ((e146 389 (285 + 2 * i) (by first | decide | omega)).trans ((e133 389 (285 + 2 * i) (by first | decide | omega)).trans ((e121 389 (285 + 2 * i) (by first | decide | omega)).trans (e108 389 (285 + 2 * i) (by first | decide | omega))))))
          have xb81 : rows t159 389 294 1 (σ 6 0) (fun i => sp_nv S m (σ 18 i + 2)) := rows_keep hb9 (fun i hi => (e159 389 (294 + 1 * i) (by first | decide | omega)).trans ((e146 389 (294 + 1 * i) (by first | decide | omega)).trans ((e133 389 (294 + 1 * i) (by first | decide | omega)).trans ((e121 389 (294 + 1 * i) (by first | decide | omega)).trans (e108 389 (294 + 1 * i) (by first | decide | omega))))))
          have xb82 : rows t159 389 300 2 (σ 7 0) (fun i => sp_nv S m (σ 19 i + 2)) := rows_keep hb10 (fun i hi => (e159 389 (300 + 2 * i) (by first | decide | omega)).trans ((e146 389 (300 + 2 * i) (by first | decide | omega)).trans ((e133 389 (300 + 2 * i) (by first | decide | omega)).trans ((e121 389 (300 + 2 * i) (by first | decide | omega)).trans (e108 389 (300 + 2 * i) (by first | decide | omega))))))
          have xb83 : rows t159 389 301 2 (σ 7 0) (fun i => sp_nv S m (σ 19 i + 4)) := rows_keep hb11 (fun i hi => (e159 389 (301 + 2 * i) (by first | decide | omega)).trans ((e146 389 (301 + 2 * i) (by first | decide | omega)).trans ((e133 389 (301 + 2 * i) (by first | decide | omega)).trans ((e121 389 (301 + 2 * i) (by first | decide | omega)).trans (e108 389 (301 + 2 * i) (by first | decide | omega))))))
          have xb84 : rows t159 389 172 1 64 (σ 23) := rows_keep hb13 (fun i hi => (e159 389 (172 + 1 * i) (by first | decide | omega)).trans ((e146 389 (172 + 1 * i) (by first | decide | omega)).trans ((e133 389 (172 + 1 * i) (by first | decide | omega)).trans ((e121 389 (172 + 1 * i) (by first | decide | omega)).trans (e108 389 (172 + 1 * i) (by first | decide | omega))))))
          obtain ⟨L9, d9, l9, m9⟩ := y146 (by first | decide | omega)
          have d9 := Ec_at (p' := (a + 1, 0)) d9 (by show a + 1 = a + 1; omega) (by first | rfl | (show 0 = 0; omega))
          have xk85 : rows t159 389 236 3 (σ 2 0) (σ 10) := rows_keep hRk (fun i hi => (e159 389 (236 + 3 * i) (by first | decide | omega)).trans ((e146 389 (236 + 3 * i) (by first | decide | omega)).trans ((e133 389 (236 + 3 * i) (by first | decide | omega)).trans ((e121 389 (236 + 3 * i) (by first | decide | omega)).trans (e108 389 (236 + 3 * i) (by first | decide | omega))))))
          have xk86 : rows t159 389 254 4 (σ 3 0) (σ 11) := rows_keep hRl (fun i hi => (e159 389 (254 + 4 * i) (by first | decide | omega)).trans ((e146 389 (254 + 4 * i) (by first | decide | omega)).trans ((e133 389 (254 + 4 * i) (by first | decide | omega)).trans ((e121 389 (254 + 4 * i) (by first | decide | omega)).trans (e108 389 (254 + 4 * i) (by first | decide | omega))))))
          have xk87 : rows t159 389 278 3 (σ 4 0) (σ 12) := rows_keep hRs (fun i hi => (e159 389 (278 + 3 * i) (by first | decide | omega)).trans ((e146 389 (278 + 3 * i) (by first | decide | omega)).trans ((e133 389 (278 + 3 * i) (by first | decide | omega)).trans ((e121 389 (278 + 3 * i) (by first | decide | omega)).trans (e108 389 (278 + 3 * i) (by first | decide | omega))))))
          refine ⟨⟨⟨k60, k61, k62, k63, k64, k65, k66, k67, k68, k69⟩, RLw_up hRL (fun l hl hk => (e159 389 (169 + l) (by first | decide | omega)).trans ((e146 389 (169 + l) (by first | decide | omega)).trans ((e133 389 (169 + l) (by first | decide | omega)).trans ((e121 389 (169 + l) (by first | decide | omega)).trans (e108 389 (169 + l) (by first | decide | omega)))))) k70 (by first | decide | omega), xk85, xk86, xk87, (fun k hk => ⟨((e159 393 k (by first | decide | omega)).trans ((e146 393 k (by first | decide | omega)).trans ((e133 393 k (by first | decide | omega)).trans ((e121 393 k (by first | decide | omega)).trans (e108 393 k (by first | decide | omega)))))).trans (hRN k hk).1, ((e159 395 k (by first | decide | omega)).trans ((e146 395 k (by first | decide | omega)).trans ((e133 395 k (by first | decide | omega)).trans ((e121 395 k (by first | decide | omega)).trans (e108 395 k (by first | decide | omega)))))).trans (hRN k hk).2⟩), xb72, xb73, xb74, xb75, xb76, xb77, xb78, xb79, xb80, xb81, xb82, xb83, ((e159 389 165 (by first | decide | omega)).trans ((e146 389 165 (by first | decide | omega)).trans ((e133 389 165 (by first | decide | omega)).trans ((e121 389 165 (by first | decide | omega)).trans (e108 389 165 (by first | decide | omega)))))).trans hb12, xb84⟩, _, k159, RCw_up hC (fun l hl hk => (e159 389 (169 + l) (by first | decide | omega)).trans ((e146 389 (169 + l) (by first | decide | omega)).trans ((e133 389 (169 + l) (by first | decide | omega)).trans ((e121 389 (169 + l) (by first | decide | omega)).trans (e108 389 (169 + l) (by first | decide | omega)))))) (fun c8 i h8 h7 => (e159 c8 i (by first | decide | omega)).trans ((e146 c8 i (by first | decide | omega)).trans ((e133 c8 i (by first | decide | omega)).trans ((e121 c8 i (by first | decide | omega)).trans (e108 c8 i (by first | decide | omega)))))) k70 d9 (rLs_keep m9 (fun c8 i h8 h7 => e159 c8 i (by first | decide | omega))) ?_ (by first | decide | omega)⟩
          rw [← l9]; exact ko159
        · have hz4 : ai_hv t0 389 169 = some (.inl sv) := (rfl).trans hz2
          refine gx_ag (v := .inl sv) (cb := fun c => Nat.beq c 0) rfl (fun _ => rfl) s0.1 rfl rfl hz4 (by first | decide | omega) rfl ?_
          refine gx_1f (c := .lt) rfl (by first | decide | omega) (show ¬ (sv < 0) from by omega) rfl ?_
          refine ex_go (S := (62, [(1, .inl 0), (0, gx_r 383)], [gx_r 383], t0, n, 0)) rfl (fun _ => rfl) rfl ?_
          refine ex_go (S := (63, [(1, .inl 0), (0, gx_r 383)], [.inl 3, gx_r 383], t0, n, 0)) rfl (fun _ => rfl) rfl ?_
          obtain ⟨_, r188, t188, a188, f188, rfl, s188, e188, q188⟩ := pe_wrong (d + 31) n (s0) hT (by first | decide | omega) (w := 3) (by first | decide | omega)
          have b188 := s188.2.2.2
          have hT188 := rT_keep hT (fun c i h => e188 c i (by first | decide | omega))
          refine gx_call0 rfl rfl s0.1 rfl rfl r188 rfl ?_
          have k89 : ai_hv t188 389 160 = some (.inl (σ 0 0)) := (e188 389 160 (by first | decide | omega)).trans kk0
          have k90 : ai_hv t188 389 161 = some (.inl (σ 1 0)) := (e188 389 161 (by first | decide | omega)).trans kk1
          have k91 : ai_hv t188 389 162 = some (.inl (σ 2 0)) := (e188 389 162 (by first | decide | omega)).trans kk2
          have k92 : ai_hv t188 389 163 = some (.inl (σ 3 0)) := (e188 389 163 (by first | decide | omega)).trans kk3
          have k93 : ai_hv t188 389 164 = some (.inl (σ 4 0)) := (e188 389 164 (by first | decide | omega)).trans kk4
          have k94 : ai_hv t188 389 166 = some (.inl (σ 5 0)) := (e188 389 166 (by first | decide | omega)).trans kk5
          have k95 : ai_hv t188 389 167 = some (.inl (σ 6 0)) := (e188 389 167 (by first | decide | omega)).trans kk6
          have k96 : ai_hv t188 389 168 = some (.inl (σ 7 0)) := (e188 389 168 (by first | decide | omega)).trans kk7
          have k97 : ai_hv t188 383 20 = some (.inl (σ 8 0)) := (e188 383 20 (by first | decide | omega)).trans kk8
          have k98 : ai_hv t188 383 19 = some (.inl (σ 15 0)) := (e188 383 19 (by first | decide | omega)).trans kk9
          have k99 : ai_hv t188 383 13 = some (.inl c) := (e188 383 13 (by first | decide | omega)).trans kc
          have k100 : ai_hv t188 389 169 = some (.inl sv) := (e188 389 169 (by first | decide | omega)).trans hz4
          refine ex_go (S := (67, [(1, .inl 0), (0, gx_r 383)], [gx_r 383], t188, n, 0)) rfl (fun _ => rfl) rfl ?_
          refine gx_get rfl s188.1 rfl s188.2.2.1 rfl ?_
          refine gx_1f (c := .le) rfl (by first | decide | omega) (show ¬ (f188 ≤ 0) from by omega) rfl ?_
          refine ex_ret (r := (none, t188, n, 0)) rfl (fun _ => rfl) ?_
          have hT101 := rT_keep (t' := t188) hT (fun c i h => e188 c i (by first | decide | omega))
          have e9 : Ev S m N (sp_fh 0) 0 0 (fr S m (σ 9 0 ≠ 0) 3 (a, 0)) (a188, f188) := by
            rw [show a188 = a by omega, show f188 = 3 + 16 * sp_st S m a by omega, fr_w (show σ 9 0 ≠ 0 by omega)]
            exact Ev_no (by first | decide | omega)
          exact ⟨_, rfl, t188, a188, f188, rfl, s188, hT101, _, Or.inr (Or.inr (Or.inr (Or.inr (Or.inr (Or.inr (Or.inr (Or.inr (Or.inl (⟨0, by omega, (show sp_wd S m N a (20 + 0) from hwc), e9, rfl⟩))))))))), by omega, fun h0 => by omega⟩
      · subst e9
        refine ex_go (S := (22, [(1, .inl 1), (0, gx_r 383)], [.inl 1], t0, n, 0)) rfl (fun _ => rfl) rfl ?_
        refine ex_go (S := (33, [(1, .inl 1), (0, gx_r 383)], [], t0, n, 0)) rfl (fun _ => rfl) rfl ?_
        refine ex_go (S := (34, [(1, .inl 1), (0, gx_r 383)], [.inl 1], t0, n, 0)) rfl (fun _ => rfl) rfl ?_
        refine ex_go (S := (35, [(1, .inl 1), (0, gx_r 383)], [.inl 3, .inl 1], t0, n, 0)) rfl (fun _ => rfl) rfl ?_
        refine ex_go (S := (48, [(1, .inl 1), (0, gx_r 383)], [], t0, n, 0)) rfl (fun _ => rfl) rfl ?_
        refine ex_go (S := (49, [(1, .inl 1), (0, gx_r 383)], [gx_r 383], t0, n, 0)) rfl (fun _ => rfl) rfl ?_
        refine gx_ref (c := 389) rfl s0.1 rfl rfl rfl rfl ?_
        refine ex_go (S := (55, [(1, .inl 1), (0, gx_r 383)], [.inl 169, gx_r 389], t0, n, 0)) rfl (fun _ => rfl) rfl ?_
        refine ex_go (S := (56, [(1, .inl 1), (0, gx_r 383)], [.inl 1, .inl 169, gx_r 389], t0, n, 0)) rfl (fun _ => rfl) rfl ?_
        refine ex_go (S := (57, [(1, .inl 1), (0, gx_r 383)], [.inl 170, gx_r 389], t0, n, 0)) rfl (fun _ => rfl) rfl ?_
        rcases hRL 1 (by first | decide | omega) with ⟨hz1, hz2⟩ | ⟨hz1, sv, hz2, hz3⟩
        · have hz4 : ai_hv t0 389 170 = some (.inl 4294967295) := (rfl).trans hz2
          refine gx_ag (v := .inl 4294967295) (cb := fun c => Nat.beq c 0) rfl (fun _ => rfl) s0.1 rfl rfl hz4 (by first | decide | omega) rfl ?_
          refine ex_go (S := (66, [(1, .inl 1), (0, gx_r 383)], [], t0, n, 0)) rfl (fun _ => rfl) rfl ?_
          refine ex_go (S := (67, [(1, .inl 1), (0, gx_r 383)], [gx_r 383], t0, n, 0)) rfl (fun _ => rfl) rfl ?_
          refine gx_get rfl s0.1 rfl s0.2.2.1 rfl ?_
          refine ex_go (S := (74, [(1, .inl 1), (0, gx_r 383)], [], t0, n, 0)) rfl (fun _ => rfl) rfl ?_
          refine ex_go (S := (75, [(1, .inl 1), (0, gx_r 383)], [gx_r 383], t0, n, 0)) rfl (fun _ => rfl) rfl ?_
          refine ex_go (S := (76, [(1, .inl 1), (0, gx_r 383)], [gx_r 383, gx_r 383], t0, n, 0)) rfl (fun _ => rfl) rfl ?_
          refine gx_get rfl s0.1 rfl s0.2.1 rfl ?_
          refine ex_go (S := (80, [(1, .inl 1), (0, gx_r 383)], [.inl 1, .inl a, gx_r 383], t0, n, 0)) rfl (fun _ => rfl) rfl ?_
          refine ex_iadd rfl (by first | decide | omega) rfl ?_
          refine gx_put rfl s0.1 rfl rfl (ai_in_h (by first | decide | omega) (by first | decide | omega) (by first | decide | omega)) rfl (fun t202 g202 k202 e202 => ?_)
          have k103 : ai_hv t202 389 160 = some (.inl (σ 0 0)) := (e202 389 160 (by first | decide | omega)).trans kk0
          have k104 : ai_hv t202 389 161 = some (.inl (σ 1 0)) := (e202 389 161 (by first | decide | omega)).trans kk1
          have k105 : ai_hv t202 389 162 = some (.inl (σ 2 0)) := (e202 389 162 (by first | decide | omega)).trans kk2
          have k106 : ai_hv t202 389 163 = some (.inl (σ 3 0)) := (e202 389 163 (by first | decide | omega)).trans kk3
          have k107 : ai_hv t202 389 164 = some (.inl (σ 4 0)) := (e202 389 164 (by first | decide | omega)).trans kk4
          have k108 : ai_hv t202 389 166 = some (.inl (σ 5 0)) := (e202 389 166 (by first | decide | omega)).trans kk5
          have k109 : ai_hv t202 389 167 = some (.inl (σ 6 0)) := (e202 389 167 (by first | decide | omega)).trans kk6
          have k110 : ai_hv t202 389 168 = some (.inl (σ 7 0)) := (e202 389 168 (by first | decide | omega)).trans kk7
          have k111 : ai_hv t202 383 20 = some (.inl (σ 8 0)) := (e202 383 20 (by first | decide | omega)).trans kk8
          have k112 : ai_hv t202 383 19 = some (.inl (σ 15 0)) := (e202 383 19 (by first | decide | omega)).trans kk9
          have k113 : ai_hv t202 383 13 = some (.inl c) := (e202 383 13 (by first | decide | omega)).trans kc
          have k114 : ai_hv t202 389 170 = some (.inl 4294967295) := (e202 389 170 (by first | decide | omega)).trans hz4
          have s202 : px_S t202 (a + 1) 0 := ⟨g202, k202, (e202 383 8 (by first | decide | omega)).trans s0.2.2.1, by omega, s0.2.2.2.2⟩
          refine ex_go (S := (85, [(1, .inl 1), (0, gx_r 383)], [.inl 1], t202, n, 0)) rfl (fun _ => rfl) rfl ?_
          refine ex_go (S := (86, [(1, .inl 1), (0, gx_r 383)], [.inl 3, .inl 1], t202, n, 0)) rfl (fun _ => rfl) rfl ?_
          refine ex_go (S := (111, [(1, .inl 1), (0, gx_r 383)], [], t202, n, 0)) rfl (fun _ => rfl) rfl ?_
          refine ex_go (S := (112, [(1, .inl 1), (0, gx_r 383)], [gx_r 383], t202, n, 0)) rfl (fun _ => rfl) rfl ?_
          refine gx_ref (c := 389) rfl s202.1 rfl rfl rfl rfl ?_
          refine ex_go (S := (118, [(1, .inl 1), (0, gx_r 383)], [.inl 169, gx_r 389], t202, n, 0)) rfl (fun _ => rfl) rfl ?_
          refine ex_go (S := (119, [(1, .inl 1), (0, gx_r 383)], [.inl 1, .inl 169, gx_r 389], t202, n, 0)) rfl (fun _ => rfl) rfl ?_
          refine ex_go (S := (120, [(1, .inl 1), (0, gx_r 383)], [.inl 170, gx_r 389], t202, n, 0)) rfl (fun _ => rfl) rfl ?_
          refine ex_go (S := (121, [(1, .inl 1), (0, gx_r 383)], [gx_r 383, .inl 170, gx_r 389], t202, n, 0)) rfl (fun _ => rfl) rfl ?_
          refine gx_get rfl s202.1 rfl k113 rfl ?_
          refine gx_ap rfl (fun _ => rfl) s202.1 rfl rfl rfl (show 170 < 320 from by omega) (px_run_law 1 (by first | decide | omega) (by first | decide | omega)) (ai_in_h (by first | decide | omega) (by first | decide | omega) (by first | decide | omega)) rfl (fun t215 g215 k215 e215 => ?_)
          have k116 : ai_hv t215 389 160 = some (.inl (σ 0 0)) := (e215 389 160 (by first | decide | omega)).trans k103
          have k117 : ai_hv t215 389 161 = some (.inl (σ 1 0)) := (e215 389 161 (by first | decide | omega)).trans k104
          have k118 : ai_hv t215 389 162 = some (.inl (σ 2 0)) := (e215 389 162 (by first | decide | omega)).trans k105
          have k119 : ai_hv t215 389 163 = some (.inl (σ 3 0)) := (e215 389 163 (by first | decide | omega)).trans k106
          have k120 : ai_hv t215 389 164 = some (.inl (σ 4 0)) := (e215 389 164 (by first | decide | omega)).trans k107
          have k121 : ai_hv t215 389 166 = some (.inl (σ 5 0)) := (e215 389 166 (by first | decide | omega)).trans k108
          have k122 : ai_hv t215 389 167 = some (.inl (σ 6 0)) := (e215 389 167 (by first | decide | omega)).trans k109
          have k123 : ai_hv t215 389 168 = some (.inl (σ 7 0)) := (e215 389 168 (by first | decide | omega)).trans k110
          have k124 : ai_hv t215 383 20 = some (.inl (σ 8 0)) := (e215 383 20 (by first | decide | omega)).trans k111
          have k125 : ai_hv t215 383 19 = some (.inl (σ 15 0)) := (e215 383 19 (by first | decide | omega)).trans k112
          have k126 : ai_hv t215 383 13 = some (.inl c) := (e215 383 13 (by first | decide | omega)).trans k113
          have s215 : px_S t215 (a + 1) 0 := ⟨g215, (e215 383 7 (by first | decide | omega)).trans s202.2.1, (e215 383 8 (by first | decide | omega)).trans s202.2.2.1, s202.2.2.2⟩
          refine ex_go (S := (126, [(1, .inl 1), (0, gx_r 383)], [gx_r 383], t215, n, 0)) rfl (fun _ => rfl) rfl ?_
          refine ex_go (S := (127, [(1, .inl 1), (0, gx_r 383)], [.inl 1, gx_r 383], t215, n, 0)) rfl (fun _ => rfl) rfl ?_
          refine ex_go (S := (135, [(1, .inl 1), (0, gx_r 383)], [gx_r 383], t215, n, 0)) rfl (fun _ => rfl) rfl ?_
          refine ex_go (S := (136, [(1, .inl 1), (0, gx_r 383)], [.inl 1, gx_r 383], t215, n, 0)) rfl (fun _ => rfl) rfl ?_
          refine ex_go (S := (137, [(1, .inl 1), (0, gx_r 383)], [.inl 1, .inl 1, gx_r 383], t215, n, 0)) rfl (fun _ => rfl) rfl ?_
          refine ex_go (S := (140, [(1, .inl 1), (0, gx_r 383)], [gx_r 383], t215, n, 0)) rfl (fun _ => rfl) rfl ?_
          refine ex_go (S := (142, [(1, .inl 1), (0, gx_r 383)], [.inl 8, gx_r 383], t215, n, 0)) rfl (fun _ => rfl) rfl ?_
          refine ex_go (S := (146, [(1, .inl 1), (0, gx_r 383)], [.inl 8, gx_r 383], t215, n, 0)) rfl (fun _ => rfl) rfl ?_
          refine gx_put rfl s215.1 rfl rfl (ai_in_h (by first | decide | omega) (by first | decide | omega) (by first | decide | omega)) rfl (fun t227 g227 k227 e227 => ?_)
          have k128 : ai_hv t227 389 160 = some (.inl (σ 0 0)) := (e227 389 160 (by first | decide | omega)).trans k116
          have k129 : ai_hv t227 389 161 = some (.inl (σ 1 0)) := (e227 389 161 (by first | decide | omega)).trans k117
          have k130 : ai_hv t227 389 162 = some (.inl (σ 2 0)) := (e227 389 162 (by first | decide | omega)).trans k118
          have k131 : ai_hv t227 389 163 = some (.inl (σ 3 0)) := (e227 389 163 (by first | decide | omega)).trans k119
          have k132 : ai_hv t227 389 164 = some (.inl (σ 4 0)) := (e227 389 164 (by first | decide | omega)).trans k120
          have k133 : ai_hv t227 389 166 = some (.inl (σ 5 0)) := (e227 389 166 (by first | decide | omega)).trans k121
          have k134 : ai_hv t227 389 167 = some (.inl (σ 6 0)) := (e227 389 167 (by first | decide | omega)).trans k122
          have k135 : ai_hv t227 389 168 = some (.inl (σ 7 0)) := (e227 389 168 (by first | decide | omega)).trans k123
          have k136 : ai_hv t227 383 20 = some (.inl (σ 8 0)) := (e227 383 20 (by first | decide | omega)).trans k124
          have k137 : ai_hv t227 383 19 = some (.inl (σ 15 0)) := (e227 383 19 (by first | decide | omega)).trans k125
          have k138 : ai_hv t227 383 13 = some (.inl c) := (e227 383 13 (by first | decide | omega)).trans k126
          have k139 : ai_hv t227 389 170 = some (.inl c) := (e227 389 170 (by first | decide | omega)).trans k215
          have s227 : px_S t227 (a + 1) 0 := ⟨g227, (e227 383 7 (by first | decide | omega)).trans s215.2.1, (e227 383 8 (by first | decide | omega)).trans s215.2.2.1, s215.2.2.2⟩
          refine ex_go (S := (150, [(1, .inl 1), (0, gx_r 383)], [gx_r 383], t227, n, 0)) rfl (fun _ => rfl) rfl ?_
          refine ex_go (S := (151, [(1, .inl 1), (0, gx_r 383)], [.inl 0, gx_r 383], t227, n, 0)) rfl (fun _ => rfl) rfl ?_
          have hT141 := rT_keep (t' := t227) hT (fun c i h => (e227 c i (by first | decide | omega)).trans ((e215 c i (by first | decide | omega)).trans (e202 c i (by first | decide | omega))))
          obtain ⟨_, r240, t240, a240, f240, c240, rfl, x240, w240, wa240, y240⟩ := pe_all0 (S := S) (m := m) (N := N) (fh := 8) (by first | decide | omega) d n _ _ _ _ s227 hT141 (by first | decide | omega) k138 (by first | decide | omega) k227
          have s240 := x240.1
          have e240 := x240.2.1
          have k240 := x240.2.2.1
          have q240 := x240.2.2.2.1
          have b240 := s240.2.2.2
          refine gx_call0 rfl rfl s227.1 rfl rfl r240 rfl ?_
          have k142 : ai_hv t240 389 160 = some (.inl (σ 0 0)) := (e240 389 160 (by first | decide | omega)).trans k128
          have k143 : ai_hv t240 389 161 = some (.inl (σ 1 0)) := (e240 389 161 (by first | decide | omega)).trans k129
          have k144 : ai_hv t240 389 162 = some (.inl (σ 2 0)) := (e240 389 162 (by first | decide | omega)).trans k130
          have k145 : ai_hv t240 389 163 = some (.inl (σ 3 0)) := (e240 389 163 (by first | decide | omega)).trans k131
          have k146 : ai_hv t240 389 164 = some (.inl (σ 4 0)) := (e240 389 164 (by first | decide | omega)).trans k132
          have k147 : ai_hv t240 389 166 = some (.inl (σ 5 0)) := (e240 389 166 (by first | decide | omega)).trans k133
          have k148 : ai_hv t240 389 167 = some (.inl (σ 6 0)) := (e240 389 167 (by first | decide | omega)).trans k134
          have k149 : ai_hv t240 389 168 = some (.inl (σ 7 0)) := (e240 389 168 (by first | decide | omega)).trans k135
          have k150 : ai_hv t240 383 20 = some (.inl (σ 8 0)) := (e240 383 20 (by first | decide | omega)).trans k136
          have k151 : ai_hv t240 383 19 = some (.inl (σ 15 0)) := (e240 383 19 (by first | decide | omega)).trans k137
          have k152 : ai_hv t240 389 170 = some (.inl c) := (e240 389 170 (by first | decide | omega)).trans k139
          refine ex_go (S := (155, [(1, .inl 1), (0, gx_r 383)], [gx_r 383], t240, n, 0)) rfl (fun _ => rfl) rfl ?_
          refine ex_go (S := (156, [(1, .inl 1), (0, gx_r 383)], [.inl 0, gx_r 383], t240, n, 0)) rfl (fun _ => rfl) rfl ?_
          refine ex_go (S := (157, [(1, .inl 1), (0, gx_r 383)], [.inl 0, .inl 0, gx_r 383], t240, n, 0)) rfl (fun _ => rfl) rfl ?_
          obtain ⟨_, r253, t253, rfl, s253, e253, k253, ko253, kz253⟩ := pk_emit (d + 31) n (s240) (o := 0) (z := 0) (by first | decide | omega) (by first | decide | omega) (by first | decide | omega) k240
          have b253 := s253.2.2.2
          refine gx_call0 rfl rfl s240.1 rfl rfl r253 rfl ?_
          have k154 : ai_hv t253 389 160 = some (.inl (σ 0 0)) := (e253 389 160 (by first | decide | omega)).trans k142
          have k155 : ai_hv t253 389 161 = some (.inl (σ 1 0)) := (e253 389 161 (by first | decide | omega)).trans k143
          have k156 : ai_hv t253 389 162 = some (.inl (σ 2 0)) := (e253 389 162 (by first | decide | omega)).trans k144
          have k157 : ai_hv t253 389 163 = some (.inl (σ 3 0)) := (e253 389 163 (by first | decide | omega)).trans k145
          have k158 : ai_hv t253 389 164 = some (.inl (σ 4 0)) := (e253 389 164 (by first | decide | omega)).trans k146
          have k159 : ai_hv t253 389 166 = some (.inl (σ 5 0)) := (e253 389 166 (by first | decide | omega)).trans k147
          have k160 : ai_hv t253 389 167 = some (.inl (σ 6 0)) := (e253 389 167 (by first | decide | omega)).trans k148
          have k161 : ai_hv t253 389 168 = some (.inl (σ 7 0)) := (e253 389 168 (by first | decide | omega)).trans k149
          have k162 : ai_hv t253 383 20 = some (.inl (σ 8 0)) := (e253 383 20 (by first | decide | omega)).trans k150
          have k163 : ai_hv t253 383 19 = some (.inl (σ 15 0)) := (e253 383 19 (by first | decide | omega)).trans k151
          have k164 : ai_hv t253 389 170 = some (.inl c) := (e253 389 170 (by first | decide | omega)).trans k152
          refine ex_ret (r := (none, t253, n, 0)) rfl (fun _ => rfl) ?_
          have hT165 := rT_keep (t' := t253) hT (fun c i h => (e253 c i (by first | decide | omega)).trans ((e240 c i (by first | decide | omega)).trans ((e227 c i (by first | decide | omega)).trans ((e215 c i (by first | decide | omega)).trans (e202 c i (by first | decide | omega))))))
          have e9 : Ev S m N (sp_fh 1) 0 0 (fr S m (σ 9 1 ≠ 0) 3 (a, 0)) (a240, f240) := by
            rw [fr_yes (show ¬ σ 9 1 ≠ 0 by omega)]
            exact w240
          refine ⟨_, rfl, t253, a240, f240, rfl, s253, hT165, _, Or.inr (Or.inr (Or.inr (Or.inr (Or.inr (Or.inr (Or.inr (Or.inr (Or.inl (⟨1, by omega, (show sp_wd S m N a (20 + 1) from hwc), e9, rfl⟩))))))))), by omega, fun h0 => ⟨by omega, ?_⟩⟩
          have xb166 : rows t253 389 237 3 (σ 2 0) (fun i => sp_nv S m (σ 16 i + 3)) := rows_keep hb0 (fun i hi => (e253 389 (237 + 3 * i) (by first | decide | omega)).trans ((e240 389 (237 + 3 * i) (by first | decide | omega)).trans ((e227 389 (237 + 3 * i) (by first | decide | omega)).trans ((e215 389 (237 + 3 * i) (by first | decide | omega)).trans (e202 389 (237 + 3 * i) (by first | decide | omega))))))
          have xb167 : rows t253 389 238 3 (σ 2 0) (fun i => sp_nv S m (σ 16 i + 4)) := rows_keep hb1 (fun i hi => (e253 389 (238 + 3 * i) (by first | decide | omega)).trans ((e240 389 (238 + 3 * i) (by first | decide | omega)).trans ((e227 389 (238 + 3 * i) (by first | decide | omega)).trans ((e215 389 (238 + 3 * i) (by first | decide | omega)).trans (e202 389 (238 + 3 * i) (by first | decide | omega))))))
          have xb168 : rows t253 389 255 4 (σ 3 0) (fun i => sp_nv S m (σ 20 i + 4)) := rows_keep hb2 (fun i hi => (e253 389 (255 + 4 * i) (by first | decide | omega)).trans ((e240 389 (255 + 4 * i) (by first | decide | omega)).trans ((e227 389 (255 + 4 * i) (by first | decide | omega)).trans ((e215 389 (255 + 4 * i) (by first | decide | omega)).trans (e202 389 (255 + 4 * i) (by first | decide | omega))))))
          have xb169 : rows t253 389 256 4 (σ 3 0) (fun i => sp_nv S m (σ 20 i + 6)) := rows_keep hb3 (fun i hi => (e253 389 (256 + 4 * i) (by first | decide | omega)).trans ((e240 389 (256 + 4 * i) (by first | decide | omega)).trans ((e227 389 (256 + 4 * i) (by first | decide | omega)).trans ((e215 389 (256 + 4 * i) (by first | decide | omega)).trans (e202 389 (256 + 4 * i) (by first | decide | omega))))))
          have xb170 : rows t253 389 257 4 (σ 3 0) (fun i => sp_nv S m (σ 20 i + 8)) := rows_keep hb4 (fun i hi => (e253 389 (257 + 4 * i) (by first | decide | omega)).trans ((e240 389 (257 + 4 * i) (by first | decide | omega)).trans ((e227 389 (257 + 4 * i) (by first | decide | omega)).trans ((e215 389 (257 + 4 * i) (by first | decide | omega)).trans (e202 389 (257 + 4 * i) (by first | decide | omega))))))
          have xb171 : rows t253 389 279 3 (σ 4 0) (fun i => sp_nv S m (σ 21 i + 3)) := rows_keep hb5 (fun i hi => (e253 389 (279 + 3 * i) (by first | decide | omega)).trans ((e240 389 (279 + 3 * i) (by first | decide | omega)).trans ((e227 389 (279 + 3 * i) (by first | decide | omega)).trans ((e215 389 (279 + 3 * i) (by first | decide | omega)).trans (e202 389 (279 + 3 * i) (by first | decide | omega))))))
          have xb172 : rows t253 389 280 3 (σ 4 0) (fun i => sp_nv S m (σ 21 i + 5)) := rows_keep hb6 (fun i hi => (e253 389 (280 + 3 * i) (by first | decide | omega)).trans ((e240 389 (280 + 3 * i) (by first | decide | omega)).trans ((e227 389 (280 + 3 * i) (by first | decide | omega)).trans ((e215 389 (280 + 3 * i) (by first | decide | omega)).trans (e202 389 (280 + 3 * i) (by first | decide | omega))))))
          have xb173 : rows t253 389 284 2 (σ 5 0) (fun i => sp_nv S m (σ 17 i + 2)) := rows_keep hb7 (fun i hi => (e253 389 (284 + 2 * i) (by first | decide | omega)).trans ((e240 389 (284 + 2 * i) (by first | decide | omega)).trans ((e227 389 (284 + 2 * i) (by first | decide | omega)).trans ((e215 389 (284 + 2 * i) (by first | decide | omega)).trans (e202 389 (284 + 2 * i) (by first | decide | omega))))))
          have xb174 : rows t253 389 285 2 (σ 5 0) (fun i => sp_nv S m (σ 17 i + 4)) := rows_keep hb8 (fun i hi => (e253 389 (285 + 2 * i) (by first | decide | omega)).trans ((e240 389 (285 + 2 * i) (by first | decide | omega)).trans ((e227 389 (285 + 2 * i) (by first | decide | omega)).trans ((e215 389 (285 + 2 * i) (by first | decide | omega)).trans (e202 389 (285 + 2 * i) (by first | decide | omega))))))
          have xb175 : rows t253 389 294 1 (σ 6 0) (fun i => sp_nv S m (σ 18 i + 2)) := rows_keep hb9 (fun i hi => (e253 389 (294 + 1 * i) (by first | decide | omega)).trans ((e240 389 (294 + 1 * i) (by first | decide | omega)).trans ((e227 389 (294 + 1 * i) (by first | decide | omega)).trans ((e215 389 (294 + 1 * i) (by first | decide | omega)).trans (e202 389 (294 + 1 * i) (by first | decide | omega))))))
          have xb176 : rows t253 389 300 2 (σ 7 0) (fun i => sp_nv S m (σ 19 i + 2)) := rows_keep hb10 (fun i hi => (e253 389 (300 + 2 * i) (by first | decide | omega)).trans ((e240 389 (300 + 2 * i) (by first | decide | omega)).trans ((e227 389 (300 + 2 * i) (by first | decide | omega)).trans ((e215 389 (300 + 2 * i) (by first | decide | omega)).trans (e202 389 (300 + 2 * i) (by first | decide | omega))))))
          have xb177 : rows t253 389 301 2 (σ 7 0) (fun i => sp_nv S m (σ 19 i + 4)) := rows_keep hb11 (fun i hi => (e253 389 (301 + 2 * i) (by first | decide | omega)).trans ((e240 389 (301 + 2 * i) (by first | decide | omega)).trans ((e227 389 (301 + 2 * i) (by first | decide | omega)).trans ((e215 389 (301 + 2 * i) (by first | decide | omega)).trans (e202 389 (301 + 2 * i) (by first | decide | omega))))))
          have xb178 : rows t253 389 172 1 64 (σ 23) := rows_keep hb13 (fun i hi => (e253 389 (172 + 1 * i) (by first | decide | omega)).trans ((e240 389 (172 + 1 * i) (by first | decide | omega)).trans ((e227 389 (172 + 1 * i) (by first | decide | omega)).trans ((e215 389 (172 + 1 * i) (by first | decide | omega)).trans (e202 389 (172 + 1 * i) (by first | decide | omega))))))
          obtain ⟨L9, d9, l9, m9⟩ := y240 (by first | decide | omega)
          have d9 := Ec_at (p' := (a + 1, 0)) d9 (by show a + 1 = a + 1; omega) (by first | rfl | (show 0 = 0; omega))
          have xk179 : rows t253 389 236 3 (σ 2 0) (σ 10) := rows_keep hRk (fun i hi => (e253 389 (236 + 3 * i) (by first | decide | omega)).trans ((e240 389 (236 + 3 * i) (by first | decide | omega)).trans ((e227 389 (236 + 3 * i) (by first | decide | omega)).trans ((e215 389 (236 + 3 * i) (by first | decide | omega)).trans (e202 389 (236 + 3 * i) (by first | decide | omega))))))
          have xk180 : rows t253 389 254 4 (σ 3 0) (σ 11) := rows_keep hRl (fun i hi => (e253 389 (254 + 4 * i) (by first | decide | omega)).trans ((e240 389 (254 + 4 * i) (by first | decide | omega)).trans ((e227 389 (254 + 4 * i) (by first | decide | omega)).trans ((e215 389 (254 + 4 * i) (by first | decide | omega)).trans (e202 389 (254 + 4 * i) (by first | decide | omega))))))
          have xk181 : rows t253 389 278 3 (σ 4 0) (σ 12) := rows_keep hRs (fun i hi => (e253 389 (278 + 3 * i) (by first | decide | omega)).trans ((e240 389 (278 + 3 * i) (by first | decide | omega)).trans ((e227 389 (278 + 3 * i) (by first | decide | omega)).trans ((e215 389 (278 + 3 * i) (by first | decide | omega)).trans (e202 389 (278 + 3 * i) (by first | decide | omega))))))
          refine ⟨⟨⟨k154, k155, k156, k157, k158, k159, k160, k161, k162, k163⟩, RLw_up hRL (fun l hl hk => (e253 389 (169 + l) (by first | decide | omega)).trans ((e240 389 (169 + l) (by first | decide | omega)).trans ((e227 389 (169 + l) (by first | decide | omega)).trans ((e215 389 (169 + l) (by first | decide | omega)).trans (e202 389 (169 + l) (by first | decide | omega)))))) k164 (by first | decide | omega), xk179, xk180, xk181, (fun k hk => ⟨((e253 393 k (by first | decide | omega)).trans ((e240 393 k (by first | decide | omega)).trans ((e227 393 k (by first | decide | omega)).trans ((e215 393 k (by first | decide | omega)).trans (e202 393 k (by first | decide | omega)))))).trans (hRN k hk).1, ((e253 395 k (by first | decide | omega)).trans ((e240 395 k (by first | decide | omega)).trans ((e227 395 k (by first | decide | omega)).trans ((e215 395 k (by first | decide | omega)).trans (e202 395 k (by first | decide | omega)))))).trans (hRN k hk).2⟩), xb166, xb167, xb168, xb169, xb170, xb171, xb172, xb173, xb174, xb175, xb176, xb177, ((e253 389 165 (by first | decide | omega)).trans ((e240 389 165 (by first | decide | omega)).trans ((e227 389 165 (by first | decide | omega)).trans ((e215 389 165 (by first | decide | omega)).trans (e202 389 165 (by first | decide | omega)))))).trans hb12, xb178⟩, _, k253, RCw_up hC (fun l hl hk => (e253 389 (169 + l) (by first | decide | omega)).trans ((e240 389 (169 + l) (by first | decide | omega)).trans ((e227 389 (169 + l) (by first | decide | omega)).trans ((e215 389 (169 + l) (by first | decide | omega)).trans (e202 389 (169 + l) (by first | decide | omega)))))) (fun c8 i h8 h7 => (e253 c8 i (by first | decide | omega)).trans ((e240 c8 i (by first | decide | omega)).trans ((e227 c8 i (by first | decide | omega)).trans ((e215 c8 i (by first | decide | omega)).trans (e202 c8 i (by first | decide | omega)))))) k164 d9 (rLs_keep m9 (fun c8 i h8 h7 => e253 c8 i (by first | decide | omega))) ?_ (by first | decide | omega)⟩
          rw [← l9]; exact ko253
        · have hz4 : ai_hv t0 389 170 = some (.inl sv) := (rfl).trans hz2
          refine gx_ag (v := .inl sv) (cb := fun c => Nat.beq c 0) rfl (fun _ => rfl) s0.1 rfl rfl hz4 (by first | decide | omega) rfl ?_
          refine gx_1f (c := .lt) rfl (by first | decide | omega) (show ¬ (sv < 0) from by omega) rfl ?_
          refine ex_go (S := (62, [(1, .inl 1), (0, gx_r 383)], [gx_r 383], t0, n, 0)) rfl (fun _ => rfl) rfl ?_
          refine ex_go (S := (63, [(1, .inl 1), (0, gx_r 383)], [.inl 3, gx_r 383], t0, n, 0)) rfl (fun _ => rfl) rfl ?_
          obtain ⟨_, r282, t282, a282, f282, rfl, s282, e282, q282⟩ := pe_wrong (d + 31) n (s0) hT (by first | decide | omega) (w := 3) (by first | decide | omega)
          have b282 := s282.2.2.2
          have hT282 := rT_keep hT (fun c i h => e282 c i (by first | decide | omega))
          refine gx_call0 rfl rfl s0.1 rfl rfl r282 rfl ?_
          have k183 : ai_hv t282 389 160 = some (.inl (σ 0 0)) := (e282 389 160 (by first | decide | omega)).trans kk0
          have k184 : ai_hv t282 389 161 = some (.inl (σ 1 0)) := (e282 389 161 (by first | decide | omega)).trans kk1
          have k185 : ai_hv t282 389 162 = some (.inl (σ 2 0)) := (e282 389 162 (by first | decide | omega)).trans kk2
          have k186 : ai_hv t282 389 163 = some (.inl (σ 3 0)) := (e282 389 163 (by first | decide | omega)).trans kk3
          have k187 : ai_hv t282 389 164 = some (.inl (σ 4 0)) := (e282 389 164 (by first | decide | omega)).trans kk4
          have k188 : ai_hv t282 389 166 = some (.inl (σ 5 0)) := (e282 389 166 (by first | decide | omega)).trans kk5
          have k189 : ai_hv t282 389 167 = some (.inl (σ 6 0)) := (e282 389 167 (by first | decide | omega)).trans kk6
          have k190 : ai_hv t282 389 168 = some (.inl (σ 7 0)) := (e282 389 168 (by first | decide | omega)).trans kk7
          have k191 : ai_hv t282 383 20 = some (.inl (σ 8 0)) := (e282 383 20 (by first | decide | omega)).trans kk8
          have k192 : ai_hv t282 383 19 = some (.inl (σ 15 0)) := (e282 383 19 (by first | decide | omega)).trans kk9
          have k193 : ai_hv t282 383 13 = some (.inl c) := (e282 383 13 (by first | decide | omega)).trans kc
          have k194 : ai_hv t282 389 170 = some (.inl sv) := (e282 389 170 (by first | decide | omega)).trans hz4
          refine ex_go (S := (67, [(1, .inl 1), (0, gx_r 383)], [gx_r 383], t282, n, 0)) rfl (fun _ => rfl) rfl ?_
          refine gx_get rfl s282.1 rfl s282.2.2.1 rfl ?_
          refine gx_1f (c := .le) rfl (by first | decide | omega) (show ¬ (f282 ≤ 0) from by omega) rfl ?_
          refine ex_ret (r := (none, t282, n, 0)) rfl (fun _ => rfl) ?_
          have hT195 := rT_keep (t' := t282) hT (fun c i h => e282 c i (by first | decide | omega))
          have e9 : Ev S m N (sp_fh 1) 0 0 (fr S m (σ 9 1 ≠ 0) 3 (a, 0)) (a282, f282) := by
            rw [show a282 = a by omega, show f282 = 3 + 16 * sp_st S m a by omega, fr_w (show σ 9 1 ≠ 0 by omega)]
            exact Ev_no (by first | decide | omega)
          exact ⟨_, rfl, t282, a282, f282, rfl, s282, hT195, _, Or.inr (Or.inr (Or.inr (Or.inr (Or.inr (Or.inr (Or.inr (Or.inr (Or.inl (⟨1, by omega, (show sp_wd S m N a (20 + 1) from hwc), e9, rfl⟩))))))))), by omega, fun h0 => by omega⟩
      · subst e9
        refine ex_go (S := (22, [(1, .inl 2), (0, gx_r 383)], [.inl 2], t0, n, 0)) rfl (fun _ => rfl) rfl ?_
        refine ex_go (S := (33, [(1, .inl 2), (0, gx_r 383)], [], t0, n, 0)) rfl (fun _ => rfl) rfl ?_
        refine ex_go (S := (34, [(1, .inl 2), (0, gx_r 383)], [.inl 2], t0, n, 0)) rfl (fun _ => rfl) rfl ?_
        refine ex_go (S := (35, [(1, .inl 2), (0, gx_r 383)], [.inl 3, .inl 2], t0, n, 0)) rfl (fun _ => rfl) rfl ?_
        refine ex_go (S := (48, [(1, .inl 2), (0, gx_r 383)], [], t0, n, 0)) rfl (fun _ => rfl) rfl ?_
        refine ex_go (S := (49, [(1, .inl 2), (0, gx_r 383)], [gx_r 383], t0, n, 0)) rfl (fun _ => rfl) rfl ?_
        refine gx_ref (c := 389) rfl s0.1 rfl rfl rfl rfl ?_
        refine ex_go (S := (55, [(1, .inl 2), (0, gx_r 383)], [.inl 169, gx_r 389], t0, n, 0)) rfl (fun _ => rfl) rfl ?_
        refine ex_go (S := (56, [(1, .inl 2), (0, gx_r 383)], [.inl 2, .inl 169, gx_r 389], t0, n, 0)) rfl (fun _ => rfl) rfl ?_
        refine ex_go (S := (57, [(1, .inl 2), (0, gx_r 383)], [.inl 171, gx_r 389], t0, n, 0)) rfl (fun _ => rfl) rfl ?_
        rcases hRL 2 (by first | decide | omega) with ⟨hz1, hz2⟩ | ⟨hz1, sv, hz2, hz3⟩
        · have hz4 : ai_hv t0 389 171 = some (.inl 4294967295) := (rfl).trans hz2
          refine gx_ag (v := .inl 4294967295) (cb := fun c => Nat.beq c 0) rfl (fun _ => rfl) s0.1 rfl rfl hz4 (by first | decide | omega) rfl ?_
          refine ex_go (S := (66, [(1, .inl 2), (0, gx_r 383)], [], t0, n, 0)) rfl (fun _ => rfl) rfl ?_
          refine ex_go (S := (67, [(1, .inl 2), (0, gx_r 383)], [gx_r 383], t0, n, 0)) rfl (fun _ => rfl) rfl ?_
          refine gx_get rfl s0.1 rfl s0.2.2.1 rfl ?_
          refine ex_go (S := (74, [(1, .inl 2), (0, gx_r 383)], [], t0, n, 0)) rfl (fun _ => rfl) rfl ?_
          refine ex_go (S := (75, [(1, .inl 2), (0, gx_r 383)], [gx_r 383], t0, n, 0)) rfl (fun _ => rfl) rfl ?_
          refine ex_go (S := (76, [(1, .inl 2), (0, gx_r 383)], [gx_r 383, gx_r 383], t0, n, 0)) rfl (fun _ => rfl) rfl ?_
          refine gx_get rfl s0.1 rfl s0.2.1 rfl ?_
          refine ex_go (S := (80, [(1, .inl 2), (0, gx_r 383)], [.inl 1, .inl a, gx_r 383], t0, n, 0)) rfl (fun _ => rfl) rfl ?_
          refine ex_iadd rfl (by first | decide | omega) rfl ?_
          refine gx_put rfl s0.1 rfl rfl (ai_in_h (by first | decide | omega) (by first | decide | omega) (by first | decide | omega)) rfl (fun t296 g296 k296 e296 => ?_)
          have k197 : ai_hv t296 389 160 = some (.inl (σ 0 0)) := (e296 389 160 (by first | decide | omega)).trans kk0
          have k198 : ai_hv t296 389 161 = some (.inl (σ 1 0)) := (e296 389 161 (by first | decide | omega)).trans kk1
          have k199 : ai_hv t296 389 162 = some (.inl (σ 2 0)) := (e296 389 162 (by first | decide | omega)).trans kk2
          have k200 : ai_hv t296 389 163 = some (.inl (σ 3 0)) := (e296 389 163 (by first | decide | omega)).trans kk3
          have k201 : ai_hv t296 389 164 = some (.inl (σ 4 0)) := (e296 389 164 (by first | decide | omega)).trans kk4
          have k202 : ai_hv t296 389 166 = some (.inl (σ 5 0)) := (e296 389 166 (by first | decide | omega)).trans kk5
          have k203 : ai_hv t296 389 167 = some (.inl (σ 6 0)) := (e296 389 167 (by first | decide | omega)).trans kk6
          have k204 : ai_hv t296 389 168 = some (.inl (σ 7 0)) := (e296 389 168 (by first | decide | omega)).trans kk7
          have k205 : ai_hv t296 383 20 = some (.inl (σ 8 0)) := (e296 383 20 (by first | decide | omega)).trans kk8
          have k206 : ai_hv t296 383 19 = some (.inl (σ 15 0)) := (e296 383 19 (by first | decide | omega)).trans kk9
          have k207 : ai_hv t296 383 13 = some (.inl c) := (e296 383 13 (by first | decide | omega)).trans kc
          have k208 : ai_hv t296 389 171 = some (.inl 4294967295) := (e296 389 171 (by first | decide | omega)).trans hz4
          have s296 : px_S t296 (a + 1) 0 := ⟨g296, k296, (e296 383 8 (by first | decide | omega)).trans s0.2.2.1, by omega, s0.2.2.2.2⟩
          refine ex_go (S := (85, [(1, .inl 2), (0, gx_r 383)], [.inl 2], t296, n, 0)) rfl (fun _ => rfl) rfl ?_
          refine ex_go (S := (86, [(1, .inl 2), (0, gx_r 383)], [.inl 3, .inl 2], t296, n, 0)) rfl (fun _ => rfl) rfl ?_
          refine ex_go (S := (111, [(1, .inl 2), (0, gx_r 383)], [], t296, n, 0)) rfl (fun _ => rfl) rfl ?_
          refine ex_go (S := (112, [(1, .inl 2), (0, gx_r 383)], [gx_r 383], t296, n, 0)) rfl (fun _ => rfl) rfl ?_
          refine gx_ref (c := 389) rfl s296.1 rfl rfl rfl rfl ?_
          refine ex_go (S := (118, [(1, .inl 2), (0, gx_r 383)], [.inl 169, gx_r 389], t296, n, 0)) rfl (fun _ => rfl) rfl ?_
          refine ex_go (S := (119, [(1, .inl 2), (0, gx_r 383)], [.inl 2, .inl 169, gx_r 389], t296, n, 0)) rfl (fun _ => rfl) rfl ?_
          refine ex_go (S := (120, [(1, .inl 2), (0, gx_r 383)], [.inl 171, gx_r 389], t296, n, 0)) rfl (fun _ => rfl) rfl ?_
          refine ex_go (S := (121, [(1, .inl 2), (0, gx_r 383)], [gx_r 383, .inl 171, gx_r 389], t296, n, 0)) rfl (fun _ => rfl) rfl ?_
          refine gx_get rfl s296.1 rfl k207 rfl ?_
          refine gx_ap rfl (fun _ => rfl) s296.1 rfl rfl rfl (show 171 < 320 from by omega) (px_run_law 2 (by first | decide | omega) (by first | decide | omega)) (ai_in_h (by first | decide | omega) (by first | decide | omega) (by first | decide | omega)) rfl (fun t309 g309 k309 e309 => ?_)
          have k210 : ai_hv t309 389 160 = some (.inl (σ 0 0)) := (e309 389 160 (by first | decide | omega)).trans k197
          have k211 : ai_hv t309 389 161 = some (.inl (σ 1 0)) := (e309 389 161 (by first | decide | omega)).trans k198
          have k212 : ai_hv t309 389 162 = some (.inl (σ 2 0)) := (e309 389 162 (by first | decide | omega)).trans k199
          have k213 : ai_hv t309 389 163 = some (.inl (σ 3 0)) := (e309 389 163 (by first | decide | omega)).trans k200
          have k214 : ai_hv t309 389 164 = some (.inl (σ 4 0)) := (e309 389 164 (by first | decide | omega)).trans k201
          have k215 : ai_hv t309 389 166 = some (.inl (σ 5 0)) := (e309 389 166 (by first | decide | omega)).trans k202
          have k216 : ai_hv t309 389 167 = some (.inl (σ 6 0)) := (e309 389 167 (by first | decide | omega)).trans k203
          have k217 : ai_hv t309 389 168 = some (.inl (σ 7 0)) := (e309 389 168 (by first | decide | omega)).trans k204
          have k218 : ai_hv t309 383 20 = some (.inl (σ 8 0)) := (e309 383 20 (by first | decide | omega)).trans k205
          have k219 : ai_hv t309 383 19 = some (.inl (σ 15 0)) := (e309 383 19 (by first | decide | omega)).trans k206
          have k220 : ai_hv t309 383 13 = some (.inl c) := (e309 383 13 (by first | decide | omega)).trans k207
          have s309 : px_S t309 (a + 1) 0 := ⟨g309, (e309 383 7 (by first | decide | omega)).trans s296.2.1, (e309 383 8 (by first | decide | omega)).trans s296.2.2.1, s296.2.2.2⟩
          refine ex_go (S := (126, [(1, .inl 2), (0, gx_r 383)], [gx_r 383], t309, n, 0)) rfl (fun _ => rfl) rfl ?_
          refine ex_go (S := (127, [(1, .inl 2), (0, gx_r 383)], [.inl 2, gx_r 383], t309, n, 0)) rfl (fun _ => rfl) rfl ?_
          refine ex_go (S := (135, [(1, .inl 2), (0, gx_r 383)], [gx_r 383], t309, n, 0)) rfl (fun _ => rfl) rfl ?_
          refine ex_go (S := (136, [(1, .inl 2), (0, gx_r 383)], [.inl 2, gx_r 383], t309, n, 0)) rfl (fun _ => rfl) rfl ?_
          refine ex_go (S := (137, [(1, .inl 2), (0, gx_r 383)], [.inl 1, .inl 2, gx_r 383], t309, n, 0)) rfl (fun _ => rfl) rfl ?_
          refine ex_go (S := (145, [(1, .inl 2), (0, gx_r 383)], [gx_r 383], t309, n, 0)) rfl (fun _ => rfl) rfl ?_
          refine ex_go (S := (146, [(1, .inl 2), (0, gx_r 383)], [.inl 2, gx_r 383], t309, n, 0)) rfl (fun _ => rfl) rfl ?_
          refine gx_put rfl s309.1 rfl rfl (ai_in_h (by first | decide | omega) (by first | decide | omega) (by first | decide | omega)) rfl (fun t321 g321 k321 e321 => ?_)
          have k222 : ai_hv t321 389 160 = some (.inl (σ 0 0)) := (e321 389 160 (by first | decide | omega)).trans k210
          have k223 : ai_hv t321 389 161 = some (.inl (σ 1 0)) := (e321 389 161 (by first | decide | omega)).trans k211
          have k224 : ai_hv t321 389 162 = some (.inl (σ 2 0)) := (e321 389 162 (by first | decide | omega)).trans k212
          have k225 : ai_hv t321 389 163 = some (.inl (σ 3 0)) := (e321 389 163 (by first | decide | omega)).trans k213
          have k226 : ai_hv t321 389 164 = some (.inl (σ 4 0)) := (e321 389 164 (by first | decide | omega)).trans k214
          have k227 : ai_hv t321 389 166 = some (.inl (σ 5 0)) := (e321 389 166 (by first | decide | omega)).trans k215
          have k228 : ai_hv t321 389 167 = some (.inl (σ 6 0)) := (e321 389 167 (by first | decide | omega)).trans k216
          have k229 : ai_hv t321 389 168 = some (.inl (σ 7 0)) := (e321 389 168 (by first | decide | omega)).trans k217
          have k230 : ai_hv t321 383 20 = some (.inl (σ 8 0)) := (e321 383 20 (by first | decide | omega)).trans k218
          have k231 : ai_hv t321 383 19 = some (.inl (σ 15 0)) := (e321 383 19 (by first | decide | omega)).trans k219
          have k232 : ai_hv t321 383 13 = some (.inl c) := (e321 383 13 (by first | decide | omega)).trans k220
          have k233 : ai_hv t321 389 171 = some (.inl c) := (e321 389 171 (by first | decide | omega)).trans k309
          have s321 : px_S t321 (a + 1) 0 := ⟨g321, (e321 383 7 (by first | decide | omega)).trans s309.2.1, (e321 383 8 (by first | decide | omega)).trans s309.2.2.1, s309.2.2.2⟩
          refine ex_go (S := (150, [(1, .inl 2), (0, gx_r 383)], [gx_r 383], t321, n, 0)) rfl (fun _ => rfl) rfl ?_
          refine ex_go (S := (151, [(1, .inl 2), (0, gx_r 383)], [.inl 0, gx_r 383], t321, n, 0)) rfl (fun _ => rfl) rfl ?_
          have hT235 := rT_keep (t' := t321) hT (fun c i h => (e321 c i (by first | decide | omega)).trans ((e309 c i (by first | decide | omega)).trans (e296 c i (by first | decide | omega))))
          obtain ⟨_, r334, t334, a334, f334, c334, rfl, x334, w334, wa334, y334⟩ := pe_all0 (S := S) (m := m) (N := N) (fh := 2) (by first | decide | omega) d n _ _ _ _ s321 hT235 (by first | decide | omega) k232 (by first | decide | omega) k321
          have s334 := x334.1
          have e334 := x334.2.1
          have k334 := x334.2.2.1
          have q334 := x334.2.2.2.1
          have b334 := s334.2.2.2
          refine gx_call0 rfl rfl s321.1 rfl rfl r334 rfl ?_
          have k236 : ai_hv t334 389 160 = some (.inl (σ 0 0)) := (e334 389 160 (by first | decide | omega)).trans k222
          have k237 : ai_hv t334 389 161 = some (.inl (σ 1 0)) := (e334 389 161 (by first | decide | omega)).trans k223
          have k238 : ai_hv t334 389 162 = some (.inl (σ 2 0)) := (e334 389 162 (by first | decide | omega)).trans k224
          have k239 : ai_hv t334 389 163 = some (.inl (σ 3 0)) := (e334 389 163 (by first | decide | omega)).trans k225
          have k240 : ai_hv t334 389 164 = some (.inl (σ 4 0)) := (e334 389 164 (by first | decide | omega)).trans k226
          have k241 : ai_hv t334 389 166 = some (.inl (σ 5 0)) := (e334 389 166 (by first | decide | omega)).trans k227
          have k242 : ai_hv t334 389 167 = some (.inl (σ 6 0)) := (e334 389 167 (by first | decide | omega)).trans k228
          have k243 : ai_hv t334 389 168 = some (.inl (σ 7 0)) := (e334 389 168 (by first | decide | omega)).trans k229
          have k244 : ai_hv t334 383 20 = some (.inl (σ 8 0)) := (e334 383 20 (by first | decide | omega)).trans k230
          have k245 : ai_hv t334 383 19 = some (.inl (σ 15 0)) := (e334 383 19 (by first | decide | omega)).trans k231
          have k246 : ai_hv t334 389 171 = some (.inl c) := (e334 389 171 (by first | decide | omega)).trans k233
          refine ex_go (S := (155, [(1, .inl 2), (0, gx_r 383)], [gx_r 383], t334, n, 0)) rfl (fun _ => rfl) rfl ?_
          refine ex_go (S := (156, [(1, .inl 2), (0, gx_r 383)], [.inl 0, gx_r 383], t334, n, 0)) rfl (fun _ => rfl) rfl ?_
          refine ex_go (S := (157, [(1, .inl 2), (0, gx_r 383)], [.inl 0, .inl 0, gx_r 383], t334, n, 0)) rfl (fun _ => rfl) rfl ?_
          obtain ⟨_, r347, t347, rfl, s347, e347, k347, ko347, kz347⟩ := pk_emit (d + 31) n (s334) (o := 0) (z := 0) (by first | decide | omega) (by first | decide | omega) (by first | decide | omega) k334
          have b347 := s347.2.2.2
          refine gx_call0 rfl rfl s334.1 rfl rfl r347 rfl ?_
          have k248 : ai_hv t347 389 160 = some (.inl (σ 0 0)) := (e347 389 160 (by first | decide | omega)).trans k236
          have k249 : ai_hv t347 389 161 = some (.inl (σ 1 0)) := (e347 389 161 (by first | decide | omega)).trans k237
          have k250 : ai_hv t347 389 162 = some (.inl (σ 2 0)) := (e347 389 162 (by first | decide | omega)).trans k238
          have k251 : ai_hv t347 389 163 = some (.inl (σ 3 0)) := (e347 389 163 (by first | decide | omega)).trans k239
          have k252 : ai_hv t347 389 164 = some (.inl (σ 4 0)) := (e347 389 164 (by first | decide | omega)).trans k240
          have k253 : ai_hv t347 389 166 = some (.inl (σ 5 0)) := (e347 389 166 (by first | decide | omega)).trans k241
          have k254 : ai_hv t347 389 167 = some (.inl (σ 6 0)) := (e347 389 167 (by first | decide | omega)).trans k242
          have k255 : ai_hv t347 389 168 = some (.inl (σ 7 0)) := (e347 389 168 (by first | decide | omega)).trans k243
          have k256 : ai_hv t347 383 20 = some (.inl (σ 8 0)) := (e347 383 20 (by first | decide | omega)).trans k244
          have k257 : ai_hv t347 383 19 = some (.inl (σ 15 0)) := (e347 383 19 (by first | decide | omega)).trans k245
          have k258 : ai_hv t347 389 171 = some (.inl c) := (e347 389 171 (by first | decide | omega)).trans k246
          refine ex_ret (r := (none, t347, n, 0)) rfl (fun _ => rfl) ?_
          have hT259 := rT_keep (t' := t347) hT (fun c i h => (e347 c i (by first | decide | omega)).trans ((e334 c i (by first | decide | omega)).trans ((e321 c i (by first | decide | omega)).trans ((e309 c i (by first | decide | omega)).trans (e296 c i (by first | decide | omega))))))
          have e9 : Ev S m N (sp_fh 2) 0 0 (fr S m (σ 9 2 ≠ 0) 3 (a, 0)) (a334, f334) := by
            rw [fr_yes (show ¬ σ 9 2 ≠ 0 by omega)]
            exact w334
          refine ⟨_, rfl, t347, a334, f334, rfl, s347, hT259, _, Or.inr (Or.inr (Or.inr (Or.inr (Or.inr (Or.inr (Or.inr (Or.inr (Or.inl (⟨2, by omega, (show sp_wd S m N a (20 + 2) from hwc), e9, rfl⟩))))))))), by omega, fun h0 => ⟨by omega, ?_⟩⟩
          have xb260 : rows t347 389 237 3 (σ 2 0) (fun i => sp_nv S m (σ 16 i + 3)) := rows_keep hb0 (fun i hi => (e347 389 (237 + 3 * i) (by first | decide | omega)).trans ((e334 389 (237 + 3 * i) (by first | decide | omega)).trans ((e321 389 (237 + 3 * i) (by first | decide | omega)).trans ((e309 389 (237 + 3 * i) (by first | decide | omega)).trans (e296 389 (237 + 3 * i) (by first | decide | omega))))))
          have xb261 : rows t347 389 238 3 (σ 2 0) (fun i => sp_nv S m (σ 16 i + 4)) := rows_keep hb1 (fun i hi => (e347 389 (238 + 3 * i) (by first | decide | omega)).trans ((e334 389 (238 + 3 * i) (by first | decide | omega)).trans ((e321 389 (238 + 3 * i) (by first | decide | omega)).trans ((e309 389 (238 + 3 * i) (by first | decide | omega)).trans (e296 389 (238 + 3 * i) (by first | decide | omega))))))
          have xb262 : rows t347 389 255 4 (σ 3 0) (fun i => sp_nv S m (σ 20 i + 4)) := rows_keep hb2 (fun i hi => (e347 389 (255 + 4 * i) (by first | decide | omega)).trans ((e334 389 (255 + 4 * i) (by first | decide | omega)).trans ((e321 389 (255 + 4 * i) (by first | decide | omega)).trans ((e309 389 (255 + 4 * i) (by first | decide | omega)).trans (e296 389 (255 + 4 * i) (by first | decide | omega))))))
          have xb263 : rows t347 389 256 4 (σ 3 0) (fun i => sp_nv S m (σ 20 i + 6)) := rows_keep hb3 (fun i hi => (e347 389 (256 + 4 * i) (by first | decide | omega)).trans ((e334 389 (256 + 4 * i) (by first | decide | omega)).trans ((e321 389 (256 + 4 * i) (by first | decide | omega)).trans ((e309 389 (256 + 4 * i) (by first | decide | omega)).trans (e296 389 (256 + 4 * i) (by first | decide | omega))))))
          have xb264 : rows t347 389 257 4 (σ 3 0) (fun i => sp_nv S m (σ 20 i + 8)) := rows_keep hb4 (fun i hi => (e347 389 (257 + 4 * i) (by first | decide | omega)).trans ((e334 389 (257 + 4 * i) (by first | decide | omega)).trans ((e321 389 (257 + 4 * i) (by first | decide | omega)).trans ((e309 389 (257 + 4 * i) (by first | decide | omega)).trans (e296 389 (257 + 4 * i) (by first | decide | omega))))))
          have xb265 : rows t347 389 279 3 (σ 4 0) (fun i => sp_nv S m (σ 21 i + 3)) := rows_keep hb5 (fun i hi => (e347 389 (279 + 3 * i) (by first | decide | omega)).trans ((e334 389 (279 + 3 * i) (by first | decide | omega)).trans ((e321 389 (279 + 3 * i) (by first | decide | omega)).trans ((e309 389 (279 + 3 * i) (by first | decide | omega)).trans (e296 389 (279 + 3 * i) (by first | decide | omega))))))
          have xb266 : rows t347 389 280 3 (σ 4 0) (fun i => sp_nv S m (σ 21 i + 5)) := rows_keep hb6 (fun i hi => (e347 389 (280 + 3 * i) (by first | decide | omega)).trans ((e334 389 (280 + 3 * i) (by first | decide | omega)).trans ((e321 389 (280 + 3 * i) (by first | decide | omega)).trans ((e309 389 (280 + 3 * i) (by first | decide | omega)).trans (e296 389 (280 + 3 * i) (by first | decide | omega))))))
          have xb267 : rows t347 389 284 2 (σ 5 0) (fun i => sp_nv S m (σ 17 i + 2)) := rows_keep hb7 (fun i hi => (e347 389 (284 + 2 * i) (by first | decide | omega)).trans ((e334 389 (284 + 2 * i) (by first | decide | omega)).trans ((e321 389 (284 + 2 * i) (by first | decide | omega)).trans ((e309 389 (284 + 2 * i) (by first | decide | omega)).trans (e296 389 (284 + 2 * i) (by first | decide | omega))))))
          have xb268 : rows t347 389 285 2 (σ 5 0) (fun i => sp_nv S m (σ 17 i + 4)) := rows_keep hb8 (fun i hi => (e347 389 (285 + 2 * i) (by first | decide | omega)).trans ((e334 389 (285 + 2 * i) (by first | decide | omega)).trans ((e321 389 (285 + 2 * i) (by first | decide | omega)).trans ((e309 389 (285 + 2 * i) (by first | decide | omega)).trans (e296 389 (285 + 2 * i) (by first | decide | omega))))))
          have xb269 : rows t347 389 294 1 (σ 6 0) (fun i => sp_nv S m (σ 18 i + 2)) := rows_keep hb9 (fun i hi => (e347 389 (294 + 1 * i) (by first | decide | omega)).trans ((e334 389 (294 + 1 * i) (by first | decide | omega)).trans ((e321 389 (294 + 1 * i) (by first | decide | omega)).trans ((e309 389 (294 + 1 * i) (by first | decide | omega)).trans (e296 389 (294 + 1 * i) (by first | decide | omega))))))
          have xb270 : rows t347 389 300 2 (σ 7 0) (fun i => sp_nv S m (σ 19 i + 2)) := rows_keep hb10 (fun i hi => (e347 389 (300 + 2 * i) (by first | decide | omega)).trans ((e334 389 (300 + 2 * i) (by first | decide | omega)).trans ((e321 389 (300 + 2 * i) (by first | decide | omega)).trans ((e309 389 (300 + 2 * i) (by first | decide | omega)).trans (e296 389 (300 + 2 * i) (by first | decide | omega))))))
          have xb271 : rows t347 389 301 2 (σ 7 0) (fun i => sp_nv S m (σ 19 i + 4)) := rows_keep hb11 (fun i hi => (e347 389 (301 + 2 * i) (by first | decide | omega)).trans ((e334 389 (301 + 2 * i) (by first | decide | omega)).trans ((e321 389 (301 + 2 * i) (by first | decide | omega)).trans ((e309 389 (301 + 2 * i) (by first | decide | omega)).trans (e296 389 (301 + 2 * i) (by first | decide | omega))))))
          have xb272 : rows t347 389 172 1 64 (σ 23) := rows_keep hb13 (fun i hi => (e347 389 (172 + 1 * i) (by first | decide | omega)).trans ((e334 389 (172 + 1 * i) (by first | decide | omega)).trans ((e321 389 (172 + 1 * i) (by first | decide | omega)).trans ((e309 389 (172 + 1 * i) (by first | decide | omega)).trans (e296 389 (172 + 1 * i) (by first | decide | omega))))))
          obtain ⟨L9, d9, l9, m9⟩ := y334 (by first | decide | omega)
          have d9 := Ec_at (p' := (a + 1, 0)) d9 (by show a + 1 = a + 1; omega) (by first | rfl | (show 0 = 0; omega))
          have xk273 : rows t347 389 236 3 (σ 2 0) (σ 10) := rows_keep hRk (fun i hi => (e347 389 (236 + 3 * i) (by first | decide | omega)).trans ((e334 389 (236 + 3 * i) (by first | decide | omega)).trans ((e321 389 (236 + 3 * i) (by first | decide | omega)).trans ((e309 389 (236 + 3 * i) (by first | decide | omega)).trans (e296 389 (236 + 3 * i) (by first | decide | omega))))))
          have xk274 : rows t347 389 254 4 (σ 3 0) (σ 11) := rows_keep hRl (fun i hi => (e347 389 (254 + 4 * i) (by first | decide | omega)).trans ((e334 389 (254 + 4 * i) (by first | decide | omega)).trans ((e321 389 (254 + 4 * i) (by first | decide | omega)).trans ((e309 389 (254 + 4 * i) (by first | decide | omega)).trans (e296 389 (254 + 4 * i) (by first | decide | omega))))))
          have xk275 : rows t347 389 278 3 (σ 4 0) (σ 12) := rows_keep hRs (fun i hi => (e347 389 (278 + 3 * i) (by first | decide | omega)).trans ((e334 389 (278 + 3 * i) (by first | decide | omega)).trans ((e321 389 (278 + 3 * i) (by first | decide | omega)).trans ((e309 389 (278 + 3 * i) (by first | decide | omega)).trans (e296 389 (278 + 3 * i) (by first | decide | omega))))))
          refine ⟨⟨⟨k248, k249, k250, k251, k252, k253, k254, k255, k256, k257⟩, RLw_up hRL (fun l hl hk => (e347 389 (169 + l) (by first | decide | omega)).trans ((e334 389 (169 + l) (by first | decide | omega)).trans ((e321 389 (169 + l) (by first | decide | omega)).trans ((e309 389 (169 + l) (by first | decide | omega)).trans (e296 389 (169 + l) (by first | decide | omega)))))) k258 (by first | decide | omega), xk273, xk274, xk275, (fun k hk => ⟨((e347 393 k (by first | decide | omega)).trans ((e334 393 k (by first | decide | omega)).trans ((e321 393 k (by first | decide | omega)).trans ((e309 393 k (by first | decide | omega)).trans (e296 393 k (by first | decide | omega)))))).trans (hRN k hk).1, ((e347 395 k (by first | decide | omega)).trans ((e334 395 k (by first | decide | omega)).trans ((e321 395 k (by first | decide | omega)).trans ((e309 395 k (by first | decide | omega)).trans (e296 395 k (by first | decide | omega)))))).trans (hRN k hk).2⟩), xb260, xb261, xb262, xb263, xb264, xb265, xb266, xb267, xb268, xb269, xb270, xb271, ((e347 389 165 (by first | decide | omega)).trans ((e334 389 165 (by first | decide | omega)).trans ((e321 389 165 (by first | decide | omega)).trans ((e309 389 165 (by first | decide | omega)).trans (e296 389 165 (by first | decide | omega)))))).trans hb12, xb272⟩, _, k347, RCw_up hC (fun l hl hk => (e347 389 (169 + l) (by first | decide | omega)).trans ((e334 389 (169 + l) (by first | decide | omega)).trans ((e321 389 (169 + l) (by first | decide | omega)).trans ((e309 389 (169 + l) (by first | decide | omega)).trans (e296 389 (169 + l) (by first | decide | omega)))))) (fun c8 i h8 h7 => (e347 c8 i (by first | decide | omega)).trans ((e334 c8 i (by first | decide | omega)).trans ((e321 c8 i (by first | decide | omega)).trans ((e309 c8 i (by first | decide | omega)).trans (e296 c8 i (by first | decide | omega)))))) k258 d9 (rLs_keep m9 (fun c8 i h8 h7 => e347 c8 i (by first | decide | omega))) ?_ (by first | decide | omega)⟩
          rw [← l9]; exact ko347
        · have hz4 : ai_hv t0 389 171 = some (.inl sv) := (rfl).trans hz2
          refine gx_ag (v := .inl sv) (cb := fun c => Nat.beq c 0) rfl (fun _ => rfl) s0.1 rfl rfl hz4 (by first | decide | omega) rfl ?_
          refine gx_1f (c := .lt) rfl (by first | decide | omega) (show ¬ (sv < 0) from by omega) rfl ?_
          refine ex_go (S := (62, [(1, .inl 2), (0, gx_r 383)], [gx_r 383], t0, n, 0)) rfl (fun _ => rfl) rfl ?_
          refine ex_go (S := (63, [(1, .inl 2), (0, gx_r 383)], [.inl 3, gx_r 383], t0, n, 0)) rfl (fun _ => rfl) rfl ?_
          obtain ⟨_, r376, t376, a376, f376, rfl, s376, e376, q376⟩ := pe_wrong (d + 31) n (s0) hT (by first | decide | omega) (w := 3) (by first | decide | omega)
          have b376 := s376.2.2.2
          have hT376 := rT_keep hT (fun c i h => e376 c i (by first | decide | omega))
          refine gx_call0 rfl rfl s0.1 rfl rfl r376 rfl ?_
          have k277 : ai_hv t376 389 160 = some (.inl (σ 0 0)) := (e376 389 160 (by first | decide | omega)).trans kk0
          have k278 : ai_hv t376 389 161 = some (.inl (σ 1 0)) := (e376 389 161 (by first | decide | omega)).trans kk1
          have k279 : ai_hv t376 389 162 = some (.inl (σ 2 0)) := (e376 389 162 (by first | decide | omega)).trans kk2
          have k280 : ai_hv t376 389 163 = some (.inl (σ 3 0)) := (e376 389 163 (by first | decide | omega)).trans kk3
          have k281 : ai_hv t376 389 164 = some (.inl (σ 4 0)) := (e376 389 164 (by first | decide | omega)).trans kk4
          have k282 : ai_hv t376 389 166 = some (.inl (σ 5 0)) := (e376 389 166 (by first | decide | omega)).trans kk5
          have k283 : ai_hv t376 389 167 = some (.inl (σ 6 0)) := (e376 389 167 (by first | decide | omega)).trans kk6
          have k284 : ai_hv t376 389 168 = some (.inl (σ 7 0)) := (e376 389 168 (by first | decide | omega)).trans kk7
          have k285 : ai_hv t376 383 20 = some (.inl (σ 8 0)) := (e376 383 20 (by first | decide | omega)).trans kk8
          have k286 : ai_hv t376 383 19 = some (.inl (σ 15 0)) := (e376 383 19 (by first | decide | omega)).trans kk9
          have k287 : ai_hv t376 383 13 = some (.inl c) := (e376 383 13 (by first | decide | omega)).trans kc
          have k288 : ai_hv t376 389 171 = some (.inl sv) := (e376 389 171 (by first | decide | omega)).trans hz4
          refine ex_go (S := (67, [(1, .inl 2), (0, gx_r 383)], [gx_r 383], t376, n, 0)) rfl (fun _ => rfl) rfl ?_
          refine gx_get rfl s376.1 rfl s376.2.2.1 rfl ?_
          refine gx_1f (c := .le) rfl (by first | decide | omega) (show ¬ (f376 ≤ 0) from by omega) rfl ?_
          refine ex_ret (r := (none, t376, n, 0)) rfl (fun _ => rfl) ?_
          have hT289 := rT_keep (t' := t376) hT (fun c i h => e376 c i (by first | decide | omega))
          have e9 : Ev S m N (sp_fh 2) 0 0 (fr S m (σ 9 2 ≠ 0) 3 (a, 0)) (a376, f376) := by
            rw [show a376 = a by omega, show f376 = 3 + 16 * sp_st S m a by omega, fr_w (show σ 9 2 ≠ 0 by omega)]
            exact Ev_no (by first | decide | omega)
          exact ⟨_, rfl, t376, a376, f376, rfl, s376, hT289, _, Or.inr (Or.inr (Or.inr (Or.inr (Or.inr (Or.inr (Or.inr (Or.inr (Or.inl (⟨2, by omega, (show sp_wd S m N a (20 + 2) from hwc), e9, rfl⟩))))))))), by omega, fun h0 => by omega⟩
    · subst hwa
      refine ex_go (S := (21, [(1, .inl 4294967295), (0, gx_r 383)], [], t0, n, 0)) rfl (fun _ => rfl) rfl ?_
      refine ex_go (S := (22, [(1, .inl 4294967295), (0, gx_r 383)], [.inl 4294967295], t0, n, 0)) rfl (fun _ => rfl) rfl ?_
      refine ex_go (S := (25, [(1, .inl 4294967295), (0, gx_r 383)], [], t0, n, 0)) rfl (fun _ => rfl) rfl ?_
      refine ex_go (S := (26, [(1, .inl 4294967295), (0, gx_r 383)], [gx_r 383], t0, n, 0)) rfl (fun _ => rfl) rfl ?_
      refine ex_go (S := (27, [(1, .inl 4294967295), (0, gx_r 383)], [.inl 1, gx_r 383], t0, n, 0)) rfl (fun _ => rfl) rfl ?_
      obtain ⟨_, r390, t390, a390, f390, rfl, s390, e390, q390⟩ := pe_wrong (d + 31) n (s0) hT (by first | decide | omega) (w := 1) (by first | decide | omega)
      have b390 := s390.2.2.2
      have hT390 := rT_keep hT (fun c i h => e390 c i (by first | decide | omega))
      refine gx_call0 rfl rfl s0.1 rfl rfl r390 rfl ?_
      have k291 : ai_hv t390 389 160 = some (.inl (σ 0 0)) := (e390 389 160 (by first | decide | omega)).trans kk0
      have k292 : ai_hv t390 389 161 = some (.inl (σ 1 0)) := (e390 389 161 (by first | decide | omega)).trans kk1
      have k293 : ai_hv t390 389 162 = some (.inl (σ 2 0)) := (e390 389 162 (by first | decide | omega)).trans kk2
      have k294 : ai_hv t390 389 163 = some (.inl (σ 3 0)) := (e390 389 163 (by first | decide | omega)).trans kk3
      have k295 : ai_hv t390 389 164 = some (.inl (σ 4 0)) := (e390 389 164 (by first | decide | omega)).trans kk4
      have k296 : ai_hv t390 389 166 = some (.inl (σ 5 0)) := (e390 389 166 (by first | decide | omega)).trans kk5
      have k297 : ai_hv t390 389 167 = some (.inl (σ 6 0)) := (e390 389 167 (by first | decide | omega)).trans kk6
      have k298 : ai_hv t390 389 168 = some (.inl (σ 7 0)) := (e390 389 168 (by first | decide | omega)).trans kk7
      have k299 : ai_hv t390 383 20 = some (.inl (σ 8 0)) := (e390 383 20 (by first | decide | omega)).trans kk8
      have k300 : ai_hv t390 383 19 = some (.inl (σ 15 0)) := (e390 383 19 (by first | decide | omega)).trans kk9
      have k301 : ai_hv t390 383 13 = some (.inl c) := (e390 383 13 (by first | decide | omega)).trans kc
      refine ex_go (S := (66, [(1, .inl 4294967295), (0, gx_r 383)], [], t390, n, 0)) rfl (fun _ => rfl) rfl ?_
      refine ex_go (S := (67, [(1, .inl 4294967295), (0, gx_r 383)], [gx_r 383], t390, n, 0)) rfl (fun _ => rfl) rfl ?_
      refine gx_get rfl s390.1 rfl s390.2.2.1 rfl ?_
      refine gx_1f (c := .le) rfl (by first | decide | omega) (show ¬ (f390 ≤ 0) from by omega) rfl ?_
      refine ex_ret (r := (none, t390, n, 0)) rfl (fun _ => rfl) ?_
      have hT302 := rT_keep (t' := t390) hT (fun c i h => e390 c i (by first | decide | omega))
      have h9 : ∀ w, w = 1 ∨ w = 2 ∨ w = 4 ∨ w = 8 ∨ w = 12 ∨ w = 15 ∨ w = 17 ∨ w = 11 ∨ w = 20 ∨ w = 21 ∨ w = 22 → ¬ sp_wd S m N a w := by
        intro w hw z
        rcases (show (w = 1 ∨ w = 2 ∨ w = 4 ∨ w = 8 ∨ w = 12 ∨ w = 15 ∨ w = 17) ∨ w = 11 ∨ (w = 20 + (w - 20) ∧ w - 20 < 3) by omega) with h | h | ⟨h, h8⟩
        · exact hno w h z
        · rw [h] at z; exact absurd (q2.2.mpr ⟨rfl, z⟩) (by first | decide | omega)
        · rw [h] at z; exact hwb (w - 20) h8 ⟨rfl, z⟩
      have e9 : (a390, f390) = fx S m 1 a := by unfold fx; rw [show a390 = a by omega, show f390 = 1 + 16 * sp_st S m a by omega]
      exact ⟨_, rfl, t390, a390, f390, rfl, s390, hT302, σ, Or.inr (Or.inr (Or.inr (Or.inr (Or.inr (Or.inr (Or.inr (Or.inr (Or.inr (⟨h9, e9, rfl⟩))))))))), by omega, fun h0 => by omega⟩
  · refine gx_1f (c := .eq) rfl (by first | decide | omega) hc4 rfl ?_
    refine ex_go (S := (10, [(0, gx_r 383)], [.inl 3], t0, n, 0)) rfl (fun _ => rfl) rfl ?_
    refine ex_go (S := (20, [(0, gx_r 383)], [.inl 3], t0, n, 0)) rfl (fun _ => rfl) rfl ?_
    refine ex_go (S := (21, [(1, .inl 3), (0, gx_r 383)], [], t0, n, 0)) rfl (fun _ => rfl) rfl ?_
    refine ex_go (S := (22, [(1, .inl 3), (0, gx_r 383)], [.inl 3], t0, n, 0)) rfl (fun _ => rfl) rfl ?_
    refine ex_go (S := (33, [(1, .inl 3), (0, gx_r 383)], [], t0, n, 0)) rfl (fun _ => rfl) rfl ?_
    refine ex_go (S := (34, [(1, .inl 3), (0, gx_r 383)], [.inl 3], t0, n, 0)) rfl (fun _ => rfl) rfl ?_
    refine ex_go (S := (35, [(1, .inl 3), (0, gx_r 383)], [.inl 3, .inl 3], t0, n, 0)) rfl (fun _ => rfl) rfl ?_
    refine ex_go (S := (38, [(1, .inl 3), (0, gx_r 383)], [], t0, n, 0)) rfl (fun _ => rfl) rfl ?_
    refine ex_go (S := (39, [(1, .inl 3), (0, gx_r 383)], [gx_r 383], t0, n, 0)) rfl (fun _ => rfl) rfl ?_
    refine gx_get rfl s0.1 rfl kk8 rfl ?_
    by_cases hc303 : σ 8 0 = 0
    · refine gx_1t (c := .eq) rfl (by first | decide | omega) hc303 rfl ?_
      refine ex_go (S := (67, [(1, .inl 3), (0, gx_r 383)], [gx_r 383], t0, n, 0)) rfl (fun _ => rfl) rfl ?_
      refine gx_get rfl s0.1 rfl s0.2.2.1 rfl ?_
      refine ex_go (S := (74, [(1, .inl 3), (0, gx_r 383)], [], t0, n, 0)) rfl (fun _ => rfl) rfl ?_
      refine ex_go (S := (75, [(1, .inl 3), (0, gx_r 383)], [gx_r 383], t0, n, 0)) rfl (fun _ => rfl) rfl ?_
      refine ex_go (S := (76, [(1, .inl 3), (0, gx_r 383)], [gx_r 383, gx_r 383], t0, n, 0)) rfl (fun _ => rfl) rfl ?_
      refine gx_get rfl s0.1 rfl s0.2.1 rfl ?_
      refine ex_go (S := (80, [(1, .inl 3), (0, gx_r 383)], [.inl 1, .inl a, gx_r 383], t0, n, 0)) rfl (fun _ => rfl) rfl ?_
      refine ex_iadd rfl (by first | decide | omega) rfl ?_
      refine gx_put rfl s0.1 rfl rfl (ai_in_h (by first | decide | omega) (by first | decide | omega) (by first | decide | omega)) rfl (fun t404 g404 k404 e404 => ?_)
      have k305 : ai_hv t404 389 160 = some (.inl (σ 0 0)) := (e404 389 160 (by first | decide | omega)).trans kk0
      have k306 : ai_hv t404 389 161 = some (.inl (σ 1 0)) := (e404 389 161 (by first | decide | omega)).trans kk1
      have k307 : ai_hv t404 389 162 = some (.inl (σ 2 0)) := (e404 389 162 (by first | decide | omega)).trans kk2
      have k308 : ai_hv t404 389 163 = some (.inl (σ 3 0)) := (e404 389 163 (by first | decide | omega)).trans kk3
      have k309 : ai_hv t404 389 164 = some (.inl (σ 4 0)) := (e404 389 164 (by first | decide | omega)).trans kk4
      have k310 : ai_hv t404 389 166 = some (.inl (σ 5 0)) := (e404 389 166 (by first | decide | omega)).trans kk5
      have k311 : ai_hv t404 389 167 = some (.inl (σ 6 0)) := (e404 389 167 (by first | decide | omega)).trans kk6
      have k312 : ai_hv t404 389 168 = some (.inl (σ 7 0)) := (e404 389 168 (by first | decide | omega)).trans kk7
      have k313 : ai_hv t404 383 20 = some (.inl (σ 8 0)) := (e404 383 20 (by first | decide | omega)).trans kk8
      have k314 : ai_hv t404 383 19 = some (.inl (σ 15 0)) := (e404 383 19 (by first | decide | omega)).trans kk9
      have k315 : ai_hv t404 383 13 = some (.inl c) := (e404 383 13 (by first | decide | omega)).trans kc
      have s404 : px_S t404 (a + 1) 0 := ⟨g404, k404, (e404 383 8 (by first | decide | omega)).trans s0.2.2.1, by omega, s0.2.2.2.2⟩
      refine ex_go (S := (85, [(1, .inl 3), (0, gx_r 383)], [.inl 3], t404, n, 0)) rfl (fun _ => rfl) rfl ?_
      refine ex_go (S := (86, [(1, .inl 3), (0, gx_r 383)], [.inl 3, .inl 3], t404, n, 0)) rfl (fun _ => rfl) rfl ?_
      refine ex_go (S := (89, [(1, .inl 3), (0, gx_r 383)], [], t404, n, 0)) rfl (fun _ => rfl) rfl ?_
      refine ex_go (S := (90, [(1, .inl 3), (0, gx_r 383)], [gx_r 383], t404, n, 0)) rfl (fun _ => rfl) rfl ?_
      refine ex_go (S := (91, [(1, .inl 3), (0, gx_r 383)], [.inl 1, gx_r 383], t404, n, 0)) rfl (fun _ => rfl) rfl ?_
      refine gx_put rfl s404.1 rfl rfl (ai_in_h (by first | decide | omega) (by first | decide | omega) (by first | decide | omega)) rfl (fun t416 g416 k416 e416 => ?_)
      have k317 : ai_hv t416 389 160 = some (.inl (σ 0 0)) := (e416 389 160 (by first | decide | omega)).trans k305
      have k318 : ai_hv t416 389 161 = some (.inl (σ 1 0)) := (e416 389 161 (by first | decide | omega)).trans k306
      have k319 : ai_hv t416 389 162 = some (.inl (σ 2 0)) := (e416 389 162 (by first | decide | omega)).trans k307
      have k320 : ai_hv t416 389 163 = some (.inl (σ 3 0)) := (e416 389 163 (by first | decide | omega)).trans k308
      have k321 : ai_hv t416 389 164 = some (.inl (σ 4 0)) := (e416 389 164 (by first | decide | omega)).trans k309
      have k322 : ai_hv t416 389 166 = some (.inl (σ 5 0)) := (e416 389 166 (by first | decide | omega)).trans k310
      have k323 : ai_hv t416 389 167 = some (.inl (σ 6 0)) := (e416 389 167 (by first | decide | omega)).trans k311
      have k324 : ai_hv t416 389 168 = some (.inl (σ 7 0)) := (e416 389 168 (by first | decide | omega)).trans k312
      have k325 : ai_hv t416 383 19 = some (.inl (σ 15 0)) := (e416 383 19 (by first | decide | omega)).trans k314
      have k326 : ai_hv t416 383 13 = some (.inl c) := (e416 383 13 (by first | decide | omega)).trans k315
      have s416 : px_S t416 (a + 1) 0 := ⟨g416, (e416 383 7 (by first | decide | omega)).trans s404.2.1, (e416 383 8 (by first | decide | omega)).trans s404.2.2.1, s404.2.2.2⟩
      refine ex_go (S := (95, [(1, .inl 3), (0, gx_r 383)], [gx_r 383], t416, n, 0)) rfl (fun _ => rfl) rfl ?_
      refine gx_ref (c := 389) rfl s416.1 rfl rfl rfl rfl ?_
      refine ex_go (S := (101, [(1, .inl 3), (0, gx_r 383)], [.inl 165, gx_r 389], t416, n, 0)) rfl (fun _ => rfl) rfl ?_
      refine ex_go (S := (102, [(1, .inl 3), (0, gx_r 383)], [gx_r 383, .inl 165, gx_r 389], t416, n, 0)) rfl (fun _ => rfl) rfl ?_
      refine ex_go (S := (103, [(1, .inl 3), (0, gx_r 383)], [.inl 1, gx_r 383, .inl 165, gx_r 389], t416, n, 0)) rfl (fun _ => rfl) rfl ?_
      refine ex_go (S := (104, [(1, .inl 3), (0, gx_r 383)], [.inl 4, .inl 1, gx_r 383, .inl 165, gx_r 389], t416, n, 0)) rfl (fun _ => rfl) rfl ?_
      have hT328 := rT_keep (t' := t416) hT (fun c i h => (e416 c i (by first | decide | omega)).trans (e404 c i (by first | decide | omega)))
      obtain ⟨_, r427, v427, t427, a427, f427, rfl, s427, e427, z427, q427⟩ := pf_takeNumber (d + 30) n (s416) hT328 (by first | decide | omega) (lo := 1) (hi := 4) (by first | decide | omega) (by first | decide | omega)
      have b427 := s427.2.2.2
      have y427 := z427.trans (congrArg (fn S m N 1 4) (fr_yes (S := S) (m := m) (w := 3) (a := a) (show ¬ σ 8 0 ≠ 0 by omega)).symm)
      refine gx_call1 rfl rfl s416.1 rfl rfl r427 rfl ?_
      have k329 : ai_hv t427 389 160 = some (.inl (σ 0 0)) := (e427 389 160 (by first | decide | omega)).trans k317
      have k330 : ai_hv t427 389 161 = some (.inl (σ 1 0)) := (e427 389 161 (by first | decide | omega)).trans k318
      have k331 : ai_hv t427 389 162 = some (.inl (σ 2 0)) := (e427 389 162 (by first | decide | omega)).trans k319
      have k332 : ai_hv t427 389 163 = some (.inl (σ 3 0)) := (e427 389 163 (by first | decide | omega)).trans k320
      have k333 : ai_hv t427 389 164 = some (.inl (σ 4 0)) := (e427 389 164 (by first | decide | omega)).trans k321
      have k334 : ai_hv t427 389 166 = some (.inl (σ 5 0)) := (e427 389 166 (by first | decide | omega)).trans k322
      have k335 : ai_hv t427 389 167 = some (.inl (σ 6 0)) := (e427 389 167 (by first | decide | omega)).trans k323
      have k336 : ai_hv t427 389 168 = some (.inl (σ 7 0)) := (e427 389 168 (by first | decide | omega)).trans k324
      have k337 : ai_hv t427 383 19 = some (.inl (σ 15 0)) := (e427 383 19 (by first | decide | omega)).trans k325
      have k338 : ai_hv t427 383 13 = some (.inl c) := (e427 383 13 (by first | decide | omega)).trans k326
      have k339 : ai_hv t427 383 20 = some (.inl 1) := (e427 383 20 (by first | decide | omega)).trans k416
      refine gx_ap rfl (fun _ => rfl) s427.1 rfl rfl rfl (show 165 < 320 from by omega) rfl (ai_in_h (by first | decide | omega) (by first | decide | omega) (by first | decide | omega)) rfl (fun t440 g440 k440 e440 => ?_)
      have k341 : ai_hv t440 389 160 = some (.inl (σ 0 0)) := (e440 389 160 (by first | decide | omega)).trans k329
      have k342 : ai_hv t440 389 161 = some (.inl (σ 1 0)) := (e440 389 161 (by first | decide | omega)).trans k330
      have k343 : ai_hv t440 389 162 = some (.inl (σ 2 0)) := (e440 389 162 (by first | decide | omega)).trans k331
      have k344 : ai_hv t440 389 163 = some (.inl (σ 3 0)) := (e440 389 163 (by first | decide | omega)).trans k332
      have k345 : ai_hv t440 389 164 = some (.inl (σ 4 0)) := (e440 389 164 (by first | decide | omega)).trans k333
      have k346 : ai_hv t440 389 166 = some (.inl (σ 5 0)) := (e440 389 166 (by first | decide | omega)).trans k334
      have k347 : ai_hv t440 389 167 = some (.inl (σ 6 0)) := (e440 389 167 (by first | decide | omega)).trans k335
      have k348 : ai_hv t440 389 168 = some (.inl (σ 7 0)) := (e440 389 168 (by first | decide | omega)).trans k336
      have k349 : ai_hv t440 383 19 = some (.inl (σ 15 0)) := (e440 383 19 (by first | decide | omega)).trans k337
      have k350 : ai_hv t440 383 13 = some (.inl c) := (e440 383 13 (by first | decide | omega)).trans k338
      have k351 : ai_hv t440 383 20 = some (.inl 1) := (e440 383 20 (by first | decide | omega)).trans k339
      have s440 : px_S t440 a427 f427 := ⟨g440, (e440 383 7 (by first | decide | omega)).trans s427.2.1, (e440 383 8 (by first | decide | omega)).trans s427.2.2.1, s427.2.2.2⟩
      refine ex_go (S := (160, [(1, .inl 3), (0, gx_r 383)], [], t440, n, 0)) rfl (fun _ => rfl) rfl ?_
      refine ex_ret (r := (none, t440, n, 0)) rfl (fun _ => rfl) ?_
      have hT352 := rT_keep (t' := t440) hT (fun c i h => (e440 c i (by first | decide | omega)).trans ((e427 c i (by first | decide | omega)).trans ((e416 c i (by first | decide | omega)).trans (e404 c i (by first | decide | omega)))))
      refine ⟨_, rfl, t440, a427, f427, rfl, s440, hT352, _, Or.inr (Or.inr (Or.inr (Or.inr (Or.inr (Or.inr (Or.inr (Or.inl (⟨(q2.2.mp (by first | decide | omega)).2, y427, rfl⟩)))))))), by omega, fun h0 => ⟨by omega, ?_⟩⟩
      have hpa : ai_hv t440 389 165 = some (.inl (pcv S m (a + 1))) := by
        unfold pcv
        rw [if_neg (show a + 1 ≠ 0 by omega)]
        have h9 : v427 = sp_nv S m (a + 1) := by omega
        rw [← h9]; exact k440
      have xb353 : rows t440 389 237 3 (σ 2 0) (fun i => sp_nv S m (σ 16 i + 3)) := rows_keep hb0 (fun i hi => (e440 389 (237 + 3 * i) (by first | decide | omega)).trans ((e427 389 (237 + 3 * i) (by first | decide | omega)).trans ((e416 389 (237 + 3 * i) (by first | decide | omega)).trans (e404 389 (237 + 3 * i) (by first | decide | omega)))))
      have xb354 : rows t440 389 238 3 (σ 2 0) (fun i => sp_nv S m (σ 16 i + 4)) := rows_keep hb1 (fun i hi => (e440 389 (238 + 3 * i) (by first | decide | omega)).trans ((e427 389 (238 + 3 * i) (by first | decide | omega)).trans ((e416 389 (238 + 3 * i) (by first | decide | omega)).trans (e404 389 (238 + 3 * i) (by first | decide | omega)))))
      have xb355 : rows t440 389 255 4 (σ 3 0) (fun i => sp_nv S m (σ 20 i + 4)) := rows_keep hb2 (fun i hi => (e440 389 (255 + 4 * i) (by first | decide | omega)).trans ((e427 389 (255 + 4 * i) (by first | decide | omega)).trans ((e416 389 (255 + 4 * i) (by first | decide | omega)).trans (e404 389 (255 + 4 * i) (by first | decide | omega)))))
      have xb356 : rows t440 389 256 4 (σ 3 0) (fun i => sp_nv S m (σ 20 i + 6)) := rows_keep hb3 (fun i hi => (e440 389 (256 + 4 * i) (by first | decide | omega)).trans ((e427 389 (256 + 4 * i) (by first | decide | omega)).trans ((e416 389 (256 + 4 * i) (by first | decide | omega)).trans (e404 389 (256 + 4 * i) (by first | decide | omega)))))
      have xb357 : rows t440 389 257 4 (σ 3 0) (fun i => sp_nv S m (σ 20 i + 8)) := rows_keep hb4 (fun i hi => (e440 389 (257 + 4 * i) (by first | decide | omega)).trans ((e427 389 (257 + 4 * i) (by first | decide | omega)).trans ((e416 389 (257 + 4 * i) (by first | decide | omega)).trans (e404 389 (257 + 4 * i) (by first | decide | omega)))))
      have xb358 : rows t440 389 279 3 (σ 4 0) (fun i => sp_nv S m (σ 21 i + 3)) := rows_keep hb5 (fun i hi => (e440 389 (279 + 3 * i) (by first | decide | omega)).trans ((e427 389 (279 + 3 * i) (by first | decide | omega)).trans ((e416 389 (279 + 3 * i) (by first | decide | omega)).trans (e404 389 (279 + 3 * i) (by first | decide | omega)))))
      have xb359 : rows t440 389 280 3 (σ 4 0) (fun i => sp_nv S m (σ 21 i + 5)) := rows_keep hb6 (fun i hi => (e440 389 (280 + 3 * i) (by first | decide | omega)).trans ((e427 389 (280 + 3 * i) (by first | decide | omega)).trans ((e416 389 (280 + 3 * i) (by first | decide | omega)).trans (e404 389 (280 + 3 * i) (by first | decide | omega)))))
      have xb360 : rows t440 389 284 2 (σ 5 0) (fun i => sp_nv S m (σ 17 i + 2)) := rows_keep hb7 (fun i hi => (e440 389 (284 + 2 * i) (by first | decide | omega)).trans ((e427 389 (284 + 2 * i) (by first | decide | omega)).trans ((e416 389 (284 + 2 * i) (by first | decide | omega)).trans (e404 389 (284 + 2 * i) (by first | decide | omega)))))
      have xb361 : rows t440 389 285 2 (σ 5 0) (fun i => sp_nv S m (σ 17 i + 4)) := rows_keep hb8 (fun i hi => (e440 389 (285 + 2 * i) (by first | decide | omega)).trans ((e427 389 (285 + 2 * i) (by first | decide | omega)).trans ((e416 389 (285 + 2 * i) (by first | decide | omega)).trans (e404 389 (285 + 2 * i) (by first | decide | omega)))))
      have xb362 : rows t440 389 294 1 (σ 6 0) (fun i => sp_nv S m (σ 18 i + 2)) := rows_keep hb9 (fun i hi => (e440 389 (294 + 1 * i) (by first | decide | omega)).trans ((e427 389 (294 + 1 * i) (by first | decide | omega)).trans ((e416 389 (294 + 1 * i) (by first | decide | omega)).trans (e404 389 (294 + 1 * i) (by first | decide | omega)))))
      have xb363 : rows t440 389 300 2 (σ 7 0) (fun i => sp_nv S m (σ 19 i + 2)) := rows_keep hb10 (fun i hi => (e440 389 (300 + 2 * i) (by first | decide | omega)).trans ((e427 389 (300 + 2 * i) (by first | decide | omega)).trans ((e416 389 (300 + 2 * i) (by first | decide | omega)).trans (e404 389 (300 + 2 * i) (by first | decide | omega)))))
      have xb364 : rows t440 389 301 2 (σ 7 0) (fun i => sp_nv S m (σ 19 i + 4)) := rows_keep hb11 (fun i hi => (e440 389 (301 + 2 * i) (by first | decide | omega)).trans ((e427 389 (301 + 2 * i) (by first | decide | omega)).trans ((e416 389 (301 + 2 * i) (by first | decide | omega)).trans (e404 389 (301 + 2 * i) (by first | decide | omega)))))
      have xb365 : rows t440 389 172 1 64 (σ 23) := rows_keep hb13 (fun i hi => (e440 389 (172 + 1 * i) (by first | decide | omega)).trans ((e427 389 (172 + 1 * i) (by first | decide | omega)).trans ((e416 389 (172 + 1 * i) (by first | decide | omega)).trans (e404 389 (172 + 1 * i) (by first | decide | omega)))))
      have xk366 : rows t440 389 236 3 (σ 2 0) (σ 10) := rows_keep hRk (fun i hi => (e440 389 (236 + 3 * i) (by first | decide | omega)).trans ((e427 389 (236 + 3 * i) (by first | decide | omega)).trans ((e416 389 (236 + 3 * i) (by first | decide | omega)).trans (e404 389 (236 + 3 * i) (by first | decide | omega)))))
      have xk367 : rows t440 389 254 4 (σ 3 0) (σ 11) := rows_keep hRl (fun i hi => (e440 389 (254 + 4 * i) (by first | decide | omega)).trans ((e427 389 (254 + 4 * i) (by first | decide | omega)).trans ((e416 389 (254 + 4 * i) (by first | decide | omega)).trans (e404 389 (254 + 4 * i) (by first | decide | omega)))))
      have xk368 : rows t440 389 278 3 (σ 4 0) (σ 12) := rows_keep hRs (fun i hi => (e440 389 (278 + 3 * i) (by first | decide | omega)).trans ((e427 389 (278 + 3 * i) (by first | decide | omega)).trans ((e416 389 (278 + 3 * i) (by first | decide | omega)).trans (e404 389 (278 + 3 * i) (by first | decide | omega)))))
      exact ⟨⟨⟨k341, k342, k343, k344, k345, k346, k347, k348, k351, k349⟩, fun k hk => by
          rcases hRL k hk with ⟨h1, h2⟩ | ⟨h1, z, h2, h3⟩
          · exact Or.inl ⟨h1, ((e440 389 (169 + k) (by first | decide | omega)).trans ((e427 389 (169 + k) (by first | decide | omega)).trans ((e416 389 (169 + k) (by first | decide | omega)).trans (e404 389 (169 + k) (by first | decide | omega))))).trans h2⟩
          · exact Or.inr ⟨h1, z, ((e440 389 (169 + k) (by first | decide | omega)).trans ((e427 389 (169 + k) (by first | decide | omega)).trans ((e416 389 (169 + k) (by first | decide | omega)).trans (e404 389 (169 + k) (by first | decide | omega))))).trans h2, h3⟩, xk366, xk367, xk368, (fun k hk => ⟨((e440 393 k (by first | decide | omega)).trans ((e427 393 k (by first | decide | omega)).trans ((e416 393 k (by first | decide | omega)).trans (e404 393 k (by first | decide | omega))))).trans (hRN k hk).1, ((e440 395 k (by first | decide | omega)).trans ((e427 395 k (by first | decide | omega)).trans ((e416 395 k (by first | decide | omega)).trans (e404 395 k (by first | decide | omega))))).trans (hRN k hk).2⟩), xb353, xb354, xb355, xb356, xb357, xb358, xb359, xb360, xb361, xb362, xb363, xb364, hpa, xb365⟩, c, k350, RCw_keep hC (Nat.le_refl _) (fun l hl h9 => ⟨h9, rfl⟩) (fun l hl => (e440 389 (169 + l) (by first | decide | omega)).trans ((e427 389 (169 + l) (by first | decide | omega)).trans ((e416 389 (169 + l) (by first | decide | omega)).trans (e404 389 (169 + l) (by first | decide | omega))))) (fun c8 i h8 h7 => (e440 c8 i (by first | decide | omega)).trans ((e427 c8 i (by first | decide | omega)).trans ((e416 c8 i (by first | decide | omega)).trans (e404 c8 i (by first | decide | omega)))))⟩
    · refine gx_1f (c := .eq) rfl (by first | decide | omega) hc303 rfl ?_
      refine ex_go (S := (61, [(1, .inl 3), (0, gx_r 383)], [], t0, n, 0)) rfl (fun _ => rfl) rfl ?_
      refine ex_go (S := (62, [(1, .inl 3), (0, gx_r 383)], [gx_r 383], t0, n, 0)) rfl (fun _ => rfl) rfl ?_
      refine ex_go (S := (63, [(1, .inl 3), (0, gx_r 383)], [.inl 3, gx_r 383], t0, n, 0)) rfl (fun _ => rfl) rfl ?_
      obtain ⟨_, r469, t469, a469, f469, rfl, s469, e469, q469⟩ := pe_wrong (d + 31) n (s0) hT (by first | decide | omega) (w := 3) (by first | decide | omega)
      have b469 := s469.2.2.2
      have hT469 := rT_keep hT (fun c i h => e469 c i (by first | decide | omega))
      refine gx_call0 rfl rfl s0.1 rfl rfl r469 rfl ?_
      have k370 : ai_hv t469 389 160 = some (.inl (σ 0 0)) := (e469 389 160 (by first | decide | omega)).trans kk0
      have k371 : ai_hv t469 389 161 = some (.inl (σ 1 0)) := (e469 389 161 (by first | decide | omega)).trans kk1
      have k372 : ai_hv t469 389 162 = some (.inl (σ 2 0)) := (e469 389 162 (by first | decide | omega)).trans kk2
      have k373 : ai_hv t469 389 163 = some (.inl (σ 3 0)) := (e469 389 163 (by first | decide | omega)).trans kk3
      have k374 : ai_hv t469 389 164 = some (.inl (σ 4 0)) := (e469 389 164 (by first | decide | omega)).trans kk4
      have k375 : ai_hv t469 389 166 = some (.inl (σ 5 0)) := (e469 389 166 (by first | decide | omega)).trans kk5
      have k376 : ai_hv t469 389 167 = some (.inl (σ 6 0)) := (e469 389 167 (by first | decide | omega)).trans kk6
      have k377 : ai_hv t469 389 168 = some (.inl (σ 7 0)) := (e469 389 168 (by first | decide | omega)).trans kk7
      have k378 : ai_hv t469 383 20 = some (.inl (σ 8 0)) := (e469 383 20 (by first | decide | omega)).trans kk8
      have k379 : ai_hv t469 383 19 = some (.inl (σ 15 0)) := (e469 383 19 (by first | decide | omega)).trans kk9
      have k380 : ai_hv t469 383 13 = some (.inl c) := (e469 383 13 (by first | decide | omega)).trans kc
      refine ex_go (S := (67, [(1, .inl 3), (0, gx_r 383)], [gx_r 383], t469, n, 0)) rfl (fun _ => rfl) rfl ?_
      refine gx_get rfl s469.1 rfl s469.2.2.1 rfl ?_
      refine gx_1f (c := .le) rfl (by first | decide | omega) (show ¬ (f469 ≤ 0) from by omega) rfl ?_
      refine ex_ret (r := (none, t469, n, 0)) rfl (fun _ => rfl) ?_
      have hT381 := rT_keep (t' := t469) hT (fun c i h => e469 c i (by first | decide | omega))
      have e9 : (a469, f469) = sl_pace S m N σ a := by
        rw [show a469 = a by omega, show f469 = 3 + 16 * sp_st S m a by omega]
        unfold sl_pace
        have h5 : 3 + 16 * sp_st S m a ≠ 0 := by omega
        rw [fr_w (show σ 8 0 ≠ 0 by omega), fn_no h5]
      exact ⟨_, rfl, t469, a469, f469, rfl, s469, hT381, _, Or.inr (Or.inr (Or.inr (Or.inr (Or.inr (Or.inr (Or.inr (Or.inl (⟨(q2.2.mp (by first | decide | omega)).2, e9, rfl⟩)))))))), by omega, fun h0 => by omega⟩
theorem pe_readLine (d n : Nat) {t0 : en_H} {a c : Nat} {S : Nat → Nat} {m N : Nat} {σ : Nat → Nat → Nat} (s0 : px_S t0 a 0) (hT : rT t0 S m N) (ha : a < N) (hA : RA t0 S m σ) (hB : WB σ) (hK : NK S m N σ) (kc : ai_hv t0 383 13 = some (.inl c)) (hca : c ≤ a) (hC : RCw t0 S m N σ c) (hO : px_O t0 c) : ∃ r, en_u (d + 34) 97 [gx_r 383] t0 n = some r ∧ ∃ t' a' f', r = (none, t', n, 0) ∧ px_S t' a' f' ∧ rT t' S m N ∧ ∃ τ, Ln S m N σ a (a', f') τ ∧ a' ≤ N ∧ (f' = 0 → a < a' ∧ RA t' S m τ ∧ ∃ c', ai_hv t' 383 13 = some (.inl c') ∧ RCw t' S m N τ c') := by
  have b0 := s0.2.2.2
  have hN := hT.2.2.2.2.1
  refine en_u_ex (d := d + 33) rfl ?_
  show en_ex _ _ _ _ (0, [(0, gx_r 383)], [], t0, n, 0) _
  refine ex_go (S := (1, [(0, gx_r 383)], [gx_r 383], t0, n, 0)) rfl (fun _ => rfl) rfl ?_
  refine ex_go (S := (2, [(0, gx_r 383)], [.inl 1, gx_r 383], t0, n, 0)) rfl (fun _ => rfl) rfl ?_
  obtain ⟨_, r3, b1, rfl, q2⟩ := pe_isWord (d + 32) n (s0) hT (by first | decide | omega) (w := 1) (by first | decide | omega)
  refine gx_call1 rfl rfl s0.1 rfl rfl r3 rfl ?_
  by_cases hc4 : b1 = 0
  · refine gx_1t (c := .eq) rfl (by first | decide | omega) hc4 rfl ?_
    refine ex_go (S := (16, [(0, gx_r 383)], [gx_r 383], t0, n, 0)) rfl (fun _ => rfl) rfl ?_
    refine ex_go (S := (17, [(0, gx_r 383)], [.inl 2, gx_r 383], t0, n, 0)) rfl (fun _ => rfl) rfl ?_
    obtain ⟨_, r7, b5, rfl, q6⟩ := pe_isWord (d + 32) n (s0) hT (by first | decide | omega) (w := 2) (by first | decide | omega)
    refine gx_call1 rfl rfl s0.1 rfl rfl r7 rfl ?_
    by_cases hc8 : b5 = 0
    · refine gx_1t (c := .eq) rfl (by first | decide | omega) hc8 rfl ?_
      refine ex_go (S := (31, [(0, gx_r 383)], [gx_r 383], t0, n, 0)) rfl (fun _ => rfl) rfl ?_
      refine ex_go (S := (32, [(0, gx_r 383)], [.inl 4, gx_r 383], t0, n, 0)) rfl (fun _ => rfl) rfl ?_
      obtain ⟨_, r11, b9, rfl, q10⟩ := pe_isWord (d + 32) n (s0) hT (by first | decide | omega) (w := 4) (by first | decide | omega)
      refine gx_call1 rfl rfl s0.1 rfl rfl r11 rfl ?_
      by_cases hc12 : b9 = 0
      · refine gx_1t (c := .eq) rfl (by first | decide | omega) hc12 rfl ?_
        refine ex_go (S := (46, [(0, gx_r 383)], [gx_r 383], t0, n, 0)) rfl (fun _ => rfl) rfl ?_
        refine ex_go (S := (48, [(0, gx_r 383)], [.inl 8, gx_r 383], t0, n, 0)) rfl (fun _ => rfl) rfl ?_
        obtain ⟨_, r15, b13, rfl, q14⟩ := pe_isWord (d + 32) n (s0) hT (by first | decide | omega) (w := 8) (by first | decide | omega)
        refine gx_call1 rfl rfl s0.1 rfl rfl r15 rfl ?_
        by_cases hc16 : b13 = 0
        · refine gx_1t (c := .eq) rfl (by first | decide | omega) hc16 rfl ?_
          refine ex_go (S := (62, [(0, gx_r 383)], [gx_r 383], t0, n, 0)) rfl (fun _ => rfl) rfl ?_
          refine ex_go (S := (64, [(0, gx_r 383)], [.inl 12, gx_r 383], t0, n, 0)) rfl (fun _ => rfl) rfl ?_
          obtain ⟨_, r19, b17, rfl, q18⟩ := pe_isWord (d + 32) n (s0) hT (by first | decide | omega) (w := 12) (by first | decide | omega)
          refine gx_call1 rfl rfl s0.1 rfl rfl r19 rfl ?_
          by_cases hc20 : b17 = 0
          · refine gx_1t (c := .eq) rfl (by first | decide | omega) hc20 rfl ?_
            refine ex_go (S := (78, [(0, gx_r 383)], [gx_r 383], t0, n, 0)) rfl (fun _ => rfl) rfl ?_
            refine ex_go (S := (80, [(0, gx_r 383)], [.inl 15, gx_r 383], t0, n, 0)) rfl (fun _ => rfl) rfl ?_
            obtain ⟨_, r23, b21, rfl, q22⟩ := pe_isWord (d + 32) n (s0) hT (by first | decide | omega) (w := 15) (by first | decide | omega)
            refine gx_call1 rfl rfl s0.1 rfl rfl r23 rfl ?_
            by_cases hc24 : b21 = 0
            · refine gx_1t (c := .eq) rfl (by first | decide | omega) hc24 rfl ?_
              refine ex_go (S := (94, [(0, gx_r 383)], [gx_r 383], t0, n, 0)) rfl (fun _ => rfl) rfl ?_
              refine ex_go (S := (96, [(0, gx_r 383)], [.inl 17, gx_r 383], t0, n, 0)) rfl (fun _ => rfl) rfl ?_
              obtain ⟨_, r27, b25, rfl, q26⟩ := pe_isWord (d + 32) n (s0) hT (by first | decide | omega) (w := 17) (by first | decide | omega)
              refine gx_call1 rfl rfl s0.1 rfl rfl r27 rfl ?_
              by_cases hc28 : b25 = 0
              · refine gx_1t (c := .eq) rfl (by first | decide | omega) hc28 rfl ?_
                refine ex_go (S := (110, [(0, gx_r 383)], [gx_r 383], t0, n, 0)) rfl (fun _ => rfl) rfl ?_
                have hno : ∀ w, w = 1 ∨ w = 2 ∨ w = 4 ∨ w = 8 ∨ w = 12 ∨ w = 15 ∨ w = 17 → ¬ sp_wd S m N a w := by
                  intro w hw z
                  rcases hw with rfl | rfl | rfl | rfl | rfl | rfl | rfl
                  · exact absurd (q2.2.mpr ⟨rfl, z⟩) (by first | decide | omega)
                  · exact absurd (q6.2.mpr ⟨rfl, z⟩) (by first | decide | omega)
                  · exact absurd (q10.2.mpr ⟨rfl, z⟩) (by first | decide | omega)
                  · exact absurd (q14.2.mpr ⟨rfl, z⟩) (by first | decide | omega)
                  · exact absurd (q18.2.mpr ⟨rfl, z⟩) (by first | decide | omega)
                  · exact absurd (q22.2.mpr ⟨rfl, z⟩) (by first | decide | omega)
                  · exact absurd (q26.2.mpr ⟨rfl, z⟩) (by first | decide | omega)
                obtain ⟨_, r129, t129, a129, f129, rfl, z129⟩ := pe_readOnce (d) n s0 hT ha hA hB hK kc hca hC hno
                refine gx_call0 rfl rfl s0.1 rfl rfl r129 rfl ?_
                refine ex_ret (r := (none, t129, n, 0)) rfl (fun _ => rfl) ?_
                exact ⟨_, rfl, t129, a129, f129, rfl, z129⟩
              · refine gx_1f (c := .eq) rfl (by first | decide | omega) hc28 rfl ?_
                refine ex_go (S := (103, [(0, gx_r 383)], [gx_r 383], t0, n, 0)) rfl (fun _ => rfl) rfl ?_
                obtain ⟨_, r130, t130, a130, f130, rfl, s130, z130, e130, y130⟩ := pe_readLoad (d + 28) n s0 hT ha hA hB hK
                obtain ⟨y130a, y130b⟩ := y130
                obtain ⟨_, rp130, tp130, ap130, fp130, hrp130, sp130, pq130, zp130⟩ := pk_readLoad (d + 28) n s0 (by first | decide | omega) hca hO
                have hp130 : t130 = tp130 := by
                  have h9 := Option.some.inj (r130.symm.trans rp130)
                  rw [hrp130] at h9
                  exact congrArg (fun z => z.2.1) h9
                rw [← hp130] at pq130
                refine gx_call0 rfl rfl s0.1 rfl rfl r130 rfl ?_
                refine ex_go (S := (113, [(0, gx_r 383)], [], t130, n, 0)) rfl (fun _ => rfl) rfl ?_
                refine ex_ret (r := (none, t130, n, 0)) rfl (fun _ => rfl) ?_
                exact ⟨_, rfl, t130, a130, f130, rfl, s130, z130, sn_load σ a, Or.inr (Or.inr (Or.inr (Or.inr (Or.inr (Or.inr (Or.inl (⟨(q26.2.mp (by first | decide | omega)).2, e130, rfl⟩))))))), y130a, fun h0 => ⟨(y130b h0).1, (y130b h0).2, c, (pq130 383 13 (by first | decide | omega)).trans kc, RCw_keep hC (Nat.le_refl _) (fun l hl h9 => ⟨h9, rfl⟩) (fun l hl => pq130 389 (169 + l) (by first | decide | omega)) (fun c8 i h8 h7 => pq130 c8 i (by first | decide | omega))⟩⟩
            · refine gx_1f (c := .eq) rfl (by first | decide | omega) hc24 rfl ?_
              refine ex_go (S := (87, [(0, gx_r 383)], [gx_r 383], t0, n, 0)) rfl (fun _ => rfl) rfl ?_
              obtain ⟨_, r131, t131, a131, f131, rfl, s131, z131, e131, y131⟩ := pe_readSign (d + 28) n s0 hT ha hA hB hK
              obtain ⟨y131a, y131b⟩ := y131
              obtain ⟨_, rp131, tp131, ap131, fp131, hrp131, sp131, pq131, zp131⟩ := pk_readSign (d + 28) n s0 (by first | decide | omega) hca hO
              have hp131 : t131 = tp131 := by
                have h9 := Option.some.inj (r131.symm.trans rp131)
                rw [hrp131] at h9
                exact congrArg (fun z => z.2.1) h9
              rw [← hp131] at pq131
              refine gx_call0 rfl rfl s0.1 rfl rfl r131 rfl ?_
              refine ex_go (S := (113, [(0, gx_r 383)], [], t131, n, 0)) rfl (fun _ => rfl) rfl ?_
              refine ex_ret (r := (none, t131, n, 0)) rfl (fun _ => rfl) ?_
              exact ⟨_, rfl, t131, a131, f131, rfl, s131, z131, sn_sign σ a, Or.inr (Or.inr (Or.inr (Or.inr (Or.inr (Or.inl (⟨(q22.2.mp (by first | decide | omega)).2, e131, rfl⟩)))))), y131a, fun h0 => ⟨(y131b h0).1, (y131b h0).2, c, (pq131 383 13 (by first | decide | omega)).trans kc, RCw_keep hC (Nat.le_refl _) (fun l hl h9 => ⟨h9, rfl⟩) (fun l hl => pq131 389 (169 + l) (by first | decide | omega)) (fun c8 i h8 h7 => pq131 c8 i (by first | decide | omega))⟩⟩
          · refine gx_1f (c := .eq) rfl (by first | decide | omega) hc20 rfl ?_
            refine ex_go (S := (71, [(0, gx_r 383)], [gx_r 383], t0, n, 0)) rfl (fun _ => rfl) rfl ?_
            obtain ⟨_, r132, t132, a132, f132, rfl, s132, z132, e132, y132⟩ := pe_readGap (d + 28) n s0 hT ha hA hB hK
            obtain ⟨y132a, y132b⟩ := y132
            obtain ⟨_, rp132, tp132, ap132, fp132, hrp132, sp132, pq132, zp132⟩ := pk_readGap (d + 28) n s0 (by first | decide | omega) hca hO
            have hp132 : t132 = tp132 := by
              have h9 := Option.some.inj (r132.symm.trans rp132)
              rw [hrp132] at h9
              exact congrArg (fun z => z.2.1) h9
            rw [← hp132] at pq132
            refine gx_call0 rfl rfl s0.1 rfl rfl r132 rfl ?_
            refine ex_go (S := (113, [(0, gx_r 383)], [], t132, n, 0)) rfl (fun _ => rfl) rfl ?_
            refine ex_ret (r := (none, t132, n, 0)) rfl (fun _ => rfl) ?_
            exact ⟨_, rfl, t132, a132, f132, rfl, s132, z132, sn_gap σ a, Or.inr (Or.inr (Or.inr (Or.inr (Or.inl (⟨(q18.2.mp (by first | decide | omega)).2, e132, rfl⟩))))), y132a, fun h0 => ⟨(y132b h0).1, (y132b h0).2, c, (pq132 383 13 (by first | decide | omega)).trans kc, RCw_keep hC (Nat.le_refl _) (fun l hl h9 => ⟨h9, rfl⟩) (fun l hl => pq132 389 (169 + l) (by first | decide | omega)) (fun c8 i h8 h7 => pq132 c8 i (by first | decide | omega))⟩⟩
        · refine gx_1f (c := .eq) rfl (by first | decide | omega) hc16 rfl ?_
          refine ex_go (S := (55, [(0, gx_r 383)], [gx_r 383], t0, n, 0)) rfl (fun _ => rfl) rfl ?_
          obtain ⟨_, r133, t133, a133, f133, rfl, s133, z133, e133, y133⟩ := pe_readCrew (d + 28) n s0 hT ha hA hB hK
          obtain ⟨y133a, y133b⟩ := y133
          obtain ⟨_, rp133, tp133, ap133, fp133, hrp133, sp133, pq133, zp133⟩ := pk_readCrew (d + 28) n s0 (by first | decide | omega) hca hO
          have hp133 : t133 = tp133 := by
            have h9 := Option.some.inj (r133.symm.trans rp133)
            rw [hrp133] at h9
            exact congrArg (fun z => z.2.1) h9
          rw [← hp133] at pq133
          refine gx_call0 rfl rfl s0.1 rfl rfl r133 rfl ?_
          refine ex_go (S := (113, [(0, gx_r 383)], [], t133, n, 0)) rfl (fun _ => rfl) rfl ?_
          refine ex_ret (r := (none, t133, n, 0)) rfl (fun _ => rfl) ?_
          exact ⟨_, rfl, t133, a133, f133, rfl, s133, z133, sn_crew S m σ a, Or.inr (Or.inr (Or.inr (Or.inl (⟨(q14.2.mp (by first | decide | omega)).2, e133, rfl⟩)))), y133a, fun h0 => ⟨(y133b h0).1, (y133b h0).2, c, (pq133 383 13 (by first | decide | omega)).trans kc, RCw_keep hC (Nat.le_refl _) (fun l hl h9 => ⟨h9, rfl⟩) (fun l hl => pq133 389 (169 + l) (by first | decide | omega)) (fun c8 i h8 h7 => pq133 c8 i (by first | decide | omega))⟩⟩
      · refine gx_1f (c := .eq) rfl (by first | decide | omega) hc12 rfl ?_
        refine ex_go (S := (39, [(0, gx_r 383)], [gx_r 383], t0, n, 0)) rfl (fun _ => rfl) rfl ?_
        obtain ⟨_, r134, t134, a134, f134, rfl, s134, z134, e134, y134⟩ := pe_readLead (d + 28) n s0 hT ha hA hB hK
        obtain ⟨y134a, y134b⟩ := y134
        obtain ⟨_, rp134, tp134, ap134, fp134, hrp134, sp134, pq134, zp134⟩ := pk_readLead (d + 28) n s0 (by first | decide | omega) hca hO
        have hp134 : t134 = tp134 := by
          have h9 := Option.some.inj (r134.symm.trans rp134)
          rw [hrp134] at h9
          exact congrArg (fun z => z.2.1) h9
        rw [← hp134] at pq134
        refine gx_call0 rfl rfl s0.1 rfl rfl r134 rfl ?_
        refine ex_go (S := (113, [(0, gx_r 383)], [], t134, n, 0)) rfl (fun _ => rfl) rfl ?_
        refine ex_ret (r := (none, t134, n, 0)) rfl (fun _ => rfl) ?_
        exact ⟨_, rfl, t134, a134, f134, rfl, s134, z134, sn_lead S m σ a, Or.inr (Or.inr (Or.inl (⟨(q10.2.mp (by first | decide | omega)).2, e134, rfl⟩))), y134a, fun h0 => ⟨(y134b h0).1, (y134b h0).2, c, (pq134 383 13 (by first | decide | omega)).trans kc, RCw_keep hC (Nat.le_refl _) (fun l hl h9 => ⟨h9, rfl⟩) (fun l hl => pq134 389 (169 + l) (by first | decide | omega)) (fun c8 i h8 h7 => pq134 c8 i (by first | decide | omega))⟩⟩
    · refine gx_1f (c := .eq) rfl (by first | decide | omega) hc8 rfl ?_
      refine ex_go (S := (24, [(0, gx_r 383)], [gx_r 383], t0, n, 0)) rfl (fun _ => rfl) rfl ?_
      obtain ⟨_, r135, t135, a135, f135, rfl, s135, z135, e135, y135⟩ := pe_readThing (d + 28) n s0 hT ha hA hB hK
      obtain ⟨y135a, y135b⟩ := y135
      obtain ⟨_, rp135, tp135, ap135, fp135, hrp135, sp135, pq135, zp135⟩ := pk_readThing (d + 28) n s0 (by first | decide | omega) hca hO
      have hp135 : t135 = tp135 := by
        have h9 := Option.some.inj (r135.symm.trans rp135)
        rw [hrp135] at h9
        exact congrArg (fun z => z.2.1) h9
      rw [← hp135] at pq135
      refine gx_call0 rfl rfl s0.1 rfl rfl r135 rfl ?_
      refine ex_go (S := (113, [(0, gx_r 383)], [], t135, n, 0)) rfl (fun _ => rfl) rfl ?_
      refine ex_ret (r := (none, t135, n, 0)) rfl (fun _ => rfl) ?_
      exact ⟨_, rfl, t135, a135, f135, rfl, s135, z135, sn_thing S m N σ a, Or.inr (Or.inl (⟨(q6.2.mp (by first | decide | omega)).2, e135, rfl⟩)), y135a, fun h0 => ⟨(y135b h0).1, (y135b h0).2, c, (pq135 383 13 (by first | decide | omega)).trans kc, RCw_keep hC (Nat.le_refl _) (fun l hl h9 => ⟨h9, rfl⟩) (fun l hl => pq135 389 (169 + l) (by first | decide | omega)) (fun c8 i h8 h7 => pq135 c8 i (by first | decide | omega))⟩⟩
  · refine gx_1f (c := .eq) rfl (by first | decide | omega) hc4 rfl ?_
    refine ex_go (S := (9, [(0, gx_r 383)], [gx_r 383], t0, n, 0)) rfl (fun _ => rfl) rfl ?_
    obtain ⟨_, r136, t136, a136, f136, rfl, s136, z136, e136, y136⟩ := pe_readDrift (d + 28) n s0 hT ha hA hB hK
    obtain ⟨y136a, y136b⟩ := y136
    obtain ⟨_, rp136, tp136, ap136, fp136, hrp136, sp136, pq136, zp136⟩ := pk_readDrift (d + 28) n s0 (by first | decide | omega) hca hO
    have hp136 : t136 = tp136 := by
      have h9 := Option.some.inj (r136.symm.trans rp136)
      rw [hrp136] at h9
      exact congrArg (fun z => z.2.1) h9
    rw [← hp136] at pq136
    refine gx_call0 rfl rfl s0.1 rfl rfl r136 rfl ?_
    refine ex_go (S := (113, [(0, gx_r 383)], [], t136, n, 0)) rfl (fun _ => rfl) rfl ?_
    refine ex_ret (r := (none, t136, n, 0)) rfl (fun _ => rfl) ?_
    exact ⟨_, rfl, t136, a136, f136, rfl, s136, z136, sn_drift S m N σ a, Or.inl (⟨(q2.2.mp (by first | decide | omega)).2, e136, rfl⟩), y136a, fun h0 => ⟨(y136b h0).1, (y136b h0).2, c, (pq136 383 13 (by first | decide | omega)).trans kc, RCw_keep hC (Nat.le_refl _) (fun l hl h9 => ⟨h9, rfl⟩) (fun l hl => pq136 389 (169 + l) (by first | decide | omega)) (fun c8 i h8 h7 => pq136 c8 i (by first | decide | omega))⟩⟩
theorem pe_pack_l (d n : Nat) {tb : en_H} {S : Nat → Nat} {m N K : Nat} {σ0 : Nat → Nat → Nat} {p0 : Nat × Nat} {Q : en_O → Prop} (hQ : ∀ t1 a1 f1, px_S t1 a1 f1 → (f1 = 0 → ∃ c, px_O t1 c ∧ c ≤ a1) → ai_hv t1 383 2 = some (.inl 0) → Pk S m N K σ0 p0 f1 → (f1 = 0 → ∃ υ c, px_O t1 c ∧ RCw t1 S m N υ c ∧ RA t1 S m υ ∧ W3 S m N υ ∧ Pt S m N K σ0 p0 υ) → en_ex none (en_u (d + 34)) (en_code 33) (fun _ => false) (104, [(0, gx_r 383)], [], t1, n, 0) Q) : ∀ j σ t0 a f, (f = 0 → 1000 ≤ a + j) → px_S t0 a f → rT t0 S m N → a ≤ N → (f = 0 → ((∃ c, px_O t0 c ∧ c ≤ a ∧ RCw t0 S m N σ c) ∧ RA t0 S m σ ∧ W3 S m N σ)) → ai_hv t0 383 2 = some (.inl 0) → (∀ f1, Pk S m N (j + 1) σ (a, f) f1 → Pk S m N K σ0 p0 f1) → (∀ υ, Pt S m N (j + 1) σ (a, f) υ → Pt S m N K σ0 p0 υ) → en_ex none (en_u (d + 34)) (en_code 33) (fun _ => false) (72, [(0, gx_r 383)], [], t0, n, 0) Q := by
  intro j
  induction j with
  | zero =>
    intro σ t0 a f hj s0 hT ha hO kz2 hP hPt
    have b0 := s0.2.2.2
    have hN := hT.2.2.2.2.1
    refine ex_go (S := (73, [(0, gx_r 383)], [gx_r 383], t0, n, 0)) rfl (fun _ => rfl) rfl ?_
    refine gx_get rfl s0.1 rfl s0.2.2.1 rfl ?_
    by_cases hc1 : f ≠ 0
    · refine gx_1t (c := .ne) rfl (by first | decide | omega) hc1 rfl ?_
      refine hQ t0 a f s0 (fun z => by omega) kz2 (hP _ (Or.inl ⟨by show f ≠ 0; omega, rfl⟩)) (fun z => by omega)
    · refine gx_1f (c := .ne) rfl (by first | decide | omega) hc1 rfl ?_
      refine ex_go (S := (80, [(0, gx_r 383)], [gx_r 383], t0, n, 0)) rfl (fun _ => rfl) rfl ?_
      refine gx_ref (c := 385) rfl s0.1 rfl rfl rfl rfl ?_
      refine ex_go (S := (84, [(0, gx_r 383)], [gx_r 383, gx_r 385], t0, n, 0)) rfl (fun _ => rfl) rfl ?_
      refine gx_get rfl s0.1 rfl s0.2.1 rfl ?_
      have k2 := rT_sort hT (a := a) (by first | decide | omega)
      have k2b : sp_kt S m N a ≤ 4 := by unfold sp_kt; have := sp_ty_le S m (sp_st S m a); split <;> omega
      refine gx_ag (v := .inl (sp_kt S m N a)) (cb := fun c => Nat.beq c 0) rfl (fun _ => rfl) s0.1 rfl rfl k2 (by first | decide | omega) rfl ?_
      by_cases hc3 : sp_kt S m N a = 0
      · refine gx_1t (c := .eq) rfl (by first | decide | omega) hc3 rfl ?_
        have hf0 : f = 0 := by omega
        subst hf0
        exact hQ t0 a 0 s0 (fun z => by obtain ⟨⟨c9, o9, l9, -⟩, -⟩ := hO rfl; exact ⟨c9, o9, l9⟩) kz2 (hP _ (Or.inr (Or.inl ⟨rfl, sp_kt_0 (S := S) (m := m) (by first | decide | omega), rfl⟩))) (fun _ => by
          obtain ⟨⟨c9, o9, l9, x9⟩, y9, z9⟩ := hO rfl
          exact ⟨σ, c9, o9, x9, y9, z9, hPt σ (Or.inl ⟨rfl, sp_kt_0 (S := S) (m := m) (by first | decide | omega), rfl⟩)⟩)
      · refine gx_1f (c := .eq) rfl (by first | decide | omega) hc3 rfl ?_
        exfalso
        have := sp_kt_lt (S := S) (m := m) (N := N) (a := a) (by first | decide | omega)
        omega
  | succ j ih =>
    intro σ t0 a f hj s0 hT ha hO kz2 hP hPt
    have b0 := s0.2.2.2
    have hN := hT.2.2.2.2.1
    refine ex_go (S := (73, [(0, gx_r 383)], [gx_r 383], t0, n, 0)) rfl (fun _ => rfl) rfl ?_
    refine gx_get rfl s0.1 rfl s0.2.2.1 rfl ?_
    by_cases hc1 : f ≠ 0
    · refine gx_1t (c := .ne) rfl (by first | decide | omega) hc1 rfl ?_
      refine hQ t0 a f s0 (fun z => by omega) kz2 (hP _ (Or.inl ⟨by show f ≠ 0; omega, rfl⟩)) (fun z => by omega)
    · refine gx_1f (c := .ne) rfl (by first | decide | omega) hc1 rfl ?_
      refine ex_go (S := (80, [(0, gx_r 383)], [gx_r 383], t0, n, 0)) rfl (fun _ => rfl) rfl ?_
      refine gx_ref (c := 385) rfl s0.1 rfl rfl rfl rfl ?_
      refine ex_go (S := (84, [(0, gx_r 383)], [gx_r 383, gx_r 385], t0, n, 0)) rfl (fun _ => rfl) rfl ?_
      refine gx_get rfl s0.1 rfl s0.2.1 rfl ?_
      have k2 := rT_sort hT (a := a) (by first | decide | omega)
      have k2b : sp_kt S m N a ≤ 4 := by unfold sp_kt; have := sp_ty_le S m (sp_st S m a); split <;> omega
      refine gx_ag (v := .inl (sp_kt S m N a)) (cb := fun c => Nat.beq c 0) rfl (fun _ => rfl) s0.1 rfl rfl k2 (by first | decide | omega) rfl ?_
      by_cases hc3 : sp_kt S m N a = 0
      · refine gx_1t (c := .eq) rfl (by first | decide | omega) hc3 rfl ?_
        have hf0 : f = 0 := by omega
        subst hf0
        exact hQ t0 a 0 s0 (fun z => by obtain ⟨⟨c9, o9, l9, -⟩, -⟩ := hO rfl; exact ⟨c9, o9, l9⟩) kz2 (hP _ (Or.inr (Or.inl ⟨rfl, sp_kt_0 (S := S) (m := m) (by first | decide | omega), rfl⟩))) (fun _ => by
          obtain ⟨⟨c9, o9, l9, x9⟩, y9, z9⟩ := hO rfl
          exact ⟨σ, c9, o9, x9, y9, z9, hPt σ (Or.inl ⟨rfl, sp_kt_0 (S := S) (m := m) (by first | decide | omega), rfl⟩)⟩)
      · refine gx_1f (c := .eq) rfl (by first | decide | omega) hc3 rfl ?_
        refine ex_go (S := (92, [(0, gx_r 383)], [gx_r 383], t0, n, 0)) rfl (fun _ => rfl) rfl ?_
        obtain ⟨⟨cL, hcL, hcLa, hcC⟩, hRA, hW3⟩ := hO (by first | decide | omega)
        have sL : px_S t0 a 0 := by rw [← show f = 0 by omega]; exact s0
        have haN := sp_kt_lt (S := S) (m := m) (N := N) (a := a) (by first | decide | omega)
        have kcL : ai_hv t0 383 13 = some (.inl cL) := by
          obtain ⟨r, nt, ng, ns, nl, ov, dn, pa, -, -, -, -, -, -, -, -, kc9, -⟩ := hcL
          exact kc9
        obtain ⟨_, r104, t104, a104, f104, rfl, s104, e104, q104⟩ := pk_readLine d n sL (by first | decide | omega) hcLa hcL
        obtain ⟨_, r104x, t104x, a104x, f104x, hre, s104x, hT104, τ, hLn, haN104, qx104⟩ := pe_readLine d n sL hT haN hRA hW3.1 hW3.2.1 kcL hcLa hcC hcL
        have hte : t104 = t104x := by
          have h9 := Option.some.inj (r104x.symm.trans r104)
          rw [hre] at h9
          exact (congrArg (fun z => z.2.1) h9).symm
        subst hte
        have hae : a104 = a104x := (Sum.inl.inj (Option.some.inj (s104x.2.1.symm.trans s104.2.1))).symm
        have hfe : f104 = f104x := (Sum.inl.inj (Option.some.inj (s104x.2.2.1.symm.trans s104.2.2.1))).symm
        subst hae hfe
        have b104 := s104.2.2.2
        refine gx_call0 rfl rfl s0.1 rfl rfl r104 rfl ?_
        have k5 : ai_hv t104 383 2 = some (.inl 0) := (e104 383 2 (by first | decide | omega)).trans kz2
        have k6 : ai_hv t104 385 a = some (.inl (sp_kt S m N a)) := (e104 385 a (by first | decide | omega)).trans k2
        refine ex_go (S := (96, [(0, gx_r 383)], [gx_r 383], t104, n, 0)) rfl (fun _ => rfl) rfl ?_
        refine ex_go (S := (98, [(0, gx_r 383)], [.inl 59, gx_r 383], t104, n, 0)) rfl (fun _ => rfl) rfl ?_
        obtain ⟨_, r107, t107, a107, f107, rfl, s107, e107, z107, q107⟩ := pf_takeSign (d + 32) n (s104) hT104 (by first | decide | omega) (w := 59) (by first | decide | omega)
        have b107 := s107.2.2.2
        have hT107 := rT_keep hT104 (fun c i h => e107 c i (by first | decide | omega))
        refine gx_call0 rfl rfl s104.1 rfl rfl r107 rfl ?_
        have k8 : ai_hv t107 383 2 = some (.inl 0) := (e107 383 2 (by first | decide | omega)).trans k5
        have k9 : ai_hv t107 385 a = some (.inl (sp_kt S m N a)) := (e107 385 a (by first | decide | omega)).trans k6
        refine ex_go (S := (72, [(0, gx_r 383)], [], t107, n, 0)) rfl (fun _ => rfl) rfl ?_
        refine ih τ t107 a107 f107 (fun h9 => ?_) s107 hT107 (by first | decide | omega) (fun h9 => ?_) k8 (fun f1 h1 => hP f1 (Or.inr (Or.inr ⟨by show f = 0; omega, haN, (a104, f104), τ, hLn, by rw [← z107]; exact h1⟩))) (fun υ h1 => hPt υ (Or.inr ⟨by show f = 0; omega, haN, (a104, f104), τ, hLn, by rw [← z107]; exact h1⟩))
        · have h8 := (q104 (by first | decide | omega)).1
          omega
        · obtain ⟨h8, c9, o9, l9⟩ := q104 (by first | decide | omega)
          obtain ⟨-, x9, c8, k9, y9⟩ := qx104 (by first | decide | omega)
          have e8 : c8 = c9 := Sum.inl.inj (Option.some.inj (k9.symm.trans (px_O_c o9)))
          subst e8
          refine ⟨⟨c8, px_O_F o9 e107, by omega, RCw_keep y9 (Nat.le_refl _) (fun l hl h9 => ⟨h9, rfl⟩) (fun l hl => e107 389 (169 + l) (by first | decide | omega)) (fun c8 i h8 h7 => e107 c8 i (by first | decide | omega))⟩, RA_F x9 e107, W3_Ln hW3 hLn (by show f104 = 0; omega)⟩
end SPQ
