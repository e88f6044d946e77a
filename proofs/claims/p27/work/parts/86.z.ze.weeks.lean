section SWS
/-- what comes of weeks: the fault; the lines' many and where each begins -/
noncomputable def wr (f n : Nat) (ρ : Nat → Nat) : Nat × Nat × (Nat → Nat) := if f = 0 then (0, n, ρ) else (f, 0, fun _ => 0)
theorem wr_n {f n n' : Nat} {ρ ρ' : Nat → Nat} (h : f ≠ 0) : wr f n ρ = wr f n' ρ' := (if_neg h).trans (if_neg h).symm
theorem wr_1 {f f' n n' : Nat} {ρ ρ' : Nat → Nat} (h : wr f n ρ = wr f' n' ρ') : f = f' := by
  unfold wr at h
  by_cases c : f = 0 <;> by_cases c' : f' = 0
  · omega
  · rw [if_pos c, if_neg c'] at h; exact absurd (congrArg Prod.fst h).symm c'
  · rw [if_neg c, if_pos c'] at h; exact absurd (congrArg Prod.fst h) c
  · rw [if_neg c, if_neg c'] at h; exact congrArg Prod.fst h
theorem wr_2 {n n' : Nat} {ρ ρ' : Nat → Nat} (h : wr 0 n ρ = wr 0 n' ρ') : n = n' ∧ ρ = ρ' := ⟨congrArg (fun z => z.2.1) h, congrArg (fun z => z.2.2) h⟩
/-- the lines of weeks, and where each begins -/
noncomputable def Wx (S : Nat → Nat) (m N o d : Nat) (C : Nat → Prop) : Nat → Nat → (Nat → Nat) → Nat × Nat → Nat × Nat × (Nat → Nat) → Prop
  | 0, _, _, _, _ => False
  | k + 1, n, ρ, p, f => (p.2 ≠ 0 ∧ f = wr p.2 n ρ) ∨ (p.2 = 0 ∧ N ≤ p.1 ∧ f = wr 0 n ρ) ∨ (p.2 = 0 ∧ p.1 < N ∧ ∃ q, wl S m N o d n C p.1 q ∧ Wx S m N o d C k (n + 1) (nx ρ n p.1) (fs S m N 59 q) f)
theorem Wx_det {S : Nat → Nat} {m N o d : Nat} {C : Nat → Prop} : ∀ k k' n ρ p f f', Wx S m N o d C k n ρ p f → Wx S m N o d C k' n ρ p f' → f = f'
  | 0, _, _, _, _, _, _, h, _ => h.elim
  | _, 0, _, _, _, _, _, _, h => h.elim
  | k + 1, k' + 1, n, ρ, p, f, f', h, h' => by
    rcases h with ⟨h1, h2⟩ | ⟨h1, h2, h3⟩ | ⟨h1, h2, q, h3, h4⟩ <;> rcases h' with ⟨g1, g2⟩ | ⟨g1, g2, g3⟩ | ⟨g1, g2, r, g3, g4⟩
    · exact h2.trans g2.symm
    · exact absurd g1 h1
    · exact absurd g1 h1
    · exact absurd h1 g1
    · exact h3.trans g3.symm
    · omega
    · exact absurd h1 g1
    · omega
    · have e1 := wl_det h3 g3
      subst e1
      exact Wx_det k k' (n + 1) _ _ f f' h4 g4
theorem Wx_any {S : Nat → Nat} {m N o d : Nat} {C : Nat → Prop} {k n n' : Nat} {ρ ρ' : Nat → Nat} {p : Nat × Nat} {f : Nat × Nat × (Nat → Nat)} (hp : p.2 ≠ 0) (h : Wx S m N o d C k n ρ p f) : Wx S m N o d C k n' ρ' p f := by
  cases k with
  | zero => exact h
  | succ k =>
    rcases h with h | h | h
    · exact Or.inl ⟨h.1, h.2.trans (wr_n h.1)⟩
    · exact absurd h.1 hp
    · exact absurd h.1 hp
/-- the reference's row from i on tells the line at the token b -/
noncomputable def LRr (S0 : Nat → Nat) (m0 : Nat) (υ : Nat → Nat → Nat) (S : Nat → Nat) (m N : Nat) (t : en_H) (i b : Nat) : Prop :=
  (sp_wd S m N b 1 ∧ ai_hv t 396 i = some (.inl 0) ∧ ai_hv t 396 (i + 1) = some (.inl (sp_nv S m (b + 1))) ∧ (1 ≤ sp_nv S m (b + 1) ∧ sp_nv S m (b + 1) ≤ 30)) ∨
  (sp_wd S m N b 23 ∧ ai_hv t 396 i = some (.inl 1) ∧ (∃ c9, crw S0 m0 υ S m (b + 1) c9 ∧ ai_hv t 396 (i + 1) = some (.inl c9)) ∧ ai_hv t 396 (i + 2) = some (.inl (sp_nv S m (b + 2))) ∧ ai_hv t 396 (i + 3) = some (.inl (sp_nv S m (b + 3))) ∧ sp_nv S m (b + 2) < υ 0 0 ∧ sp_nv S m (b + 3) < υ 1 0) ∨
  (sp_wd S m N b 24 ∧ ai_hv t 396 i = some (.inl 2) ∧ (∃ c9, crw S0 m0 υ S m (b + 1) c9 ∧ ai_hv t 396 (i + 1) = some (.inl c9)) ∧ ai_hv t 396 (i + 2) = some (.inl (sp_nv S m (b + 2))) ∧ (1 ≤ sp_nv S m (b + 2) ∧ sp_nv S m (b + 2) ≤ 999)) ∨
  (sp_wd S m N b 25 ∧ ai_hv t 396 i = some (.inl 3) ∧ ∃ c9, crw S0 m0 υ S m (b + 1) c9 ∧ ai_hv t 396 (i + 1) = some (.inl c9))
theorem LRr_mv {S0 : Nat → Nat} {m0 : Nat} {υ : Nat → Nat → Nat} {S : Nat → Nat} {m N : Nat} {t t' : en_H} {i i' b : Nat} (h : LRr S0 m0 υ S m N t i b) (e : ∀ j, j < 4 → ai_hv t' 396 (i' + j) = ai_hv t 396 (i + j)) : LRr S0 m0 υ S m N t' i' b := by
  have e0 := e 0 (by decide)
  have e1 := e 1 (by decide)
  have e2 := e 2 (by decide)
  have e3 := e 3 (by decide)
  rcases h with ⟨w, h0, h1, h9⟩ | ⟨w, h0, ⟨c, h8, h1⟩, h2, h3, h9⟩ | ⟨w, h0, ⟨c, h8, h1⟩, h2, h9⟩ | ⟨w, h0, c, h8, h1⟩
  · exact Or.inl ⟨w, e0.trans h0, e1.trans h1, h9⟩
  · exact Or.inr (Or.inl ⟨w, e0.trans h0, ⟨c, h8, e1.trans h1⟩, e2.trans h2, e3.trans h3, h9⟩)
  · exact Or.inr (Or.inr (Or.inl ⟨w, e0.trans h0, ⟨c, h8, e1.trans h1⟩, e2.trans h2, h9⟩))
  · exact Or.inr (Or.inr (Or.inr ⟨w, e0.trans h0, c, h8, e1.trans h1⟩))
theorem fs_ne {S : Nat → Nat} {m N w : Nat} {p : Nat × Nat} (h : p.2 ≠ 0) : (fs S m N w p).2 ≠ 0 := by
  obtain ⟨a, f⟩ := p
  rw [fs_no h]; exact h
theorem pe_131 (d n : Nat) {t1 : en_H} {a f nn : Nat} {cl : en_L} (s1 : px_S t1 a f) (hn : nn ≤ 24) (h0 : en_ld cl 0 = some (gx_r 383)) (h1 : en_ld cl 1 = some (.inl nn)) : en_ex none (en_u (d + 5)) (en_code 35) (fun _ => false) (131, cl, [], t1, n, 0) (fun o => ∃ r, o = .inl r ∧ ∃ v t', r = (some (.inl v), t', n, 0) ∧ v = f ∧ (f = 0 → ai_hv t' 396 0 = some (.inl nn) ∧ ∀ i, i < 4 * nn → ai_hv t' 396 (1 + i) = ai_hv t1 396 (110 + i)) ∧ (f ≠ 0 → t' = t1)) := by
  have b0 := s1.2.2.2
  refine gx_ld (i := 0) (d := 2) (v := gx_r 383) rfl (fun _ => rfl) h0 rfl rfl ?_
  refine gx_get rfl s1.1 rfl s1.2.2.1 rfl ?_
  by_cases hc1 : f ≤ 0
  · refine gx_1t (c := .le) rfl (by first | decide | omega) hc1 rfl ?_
    refine gx_ld (i := 0) (d := 2) (v := gx_r 383) rfl (fun _ => rfl) h0 rfl rfl ?_
    refine gx_ref (c := 396) rfl s1.1 rfl rfl rfl rfl ?_
    refine ex_go (S := (148, cl, [.inl 0, gx_r 396], t1, n, 0)) rfl (fun _ => rfl) rfl ?_
    refine gx_ld (i := 1) (d := 0) (v := .inl nn) rfl (fun _ => rfl) h1 rfl rfl ?_
    refine gx_ap rfl (fun _ => rfl) s1.1 rfl rfl rfl (show 0 < 210 from by omega) rfl (ai_in_h (by first | decide | omega) (by first | decide | omega) (by first | decide | omega)) rfl (fun t102 g102 k102 e102 => ?_)
    have s102 : px_S t102 a f := ⟨g102, (e102 383 7 (by first | decide | omega)).trans s1.2.1, (e102 383 8 (by first | decide | omega)).trans s1.2.2.1, s1.2.2.2⟩
    refine ex_go (S := (151, cl, [.inl 0], t102, n, 0)) rfl (fun _ => rfl) rfl ?_
    refine gx_sto (i := 2) (d := 0) rfl (fun _ => rfl) rfl rfl (fun l3 hl3 ml3 => ?_)
    have l3_0 : en_ld l3 0 = some (gx_r 383) := ml3 0 _ h0 rfl
    have l3_1 : en_ld l3 1 = some (.inl nn) := ml3 1 _ h1 rfl
    refine we_c (tb := t102) hn (fun t9 g9 j9 e9 => ?_) (4 * nn) 0 _ _ (by first | decide | omega) s102.1 (fun i hi => by omega) (fun c i h => rfl) l3_0 l3_1 hl3
    have hf0 : f = 0 := by omega
    exact ⟨_, rfl, 0, t9, rfl, by omega, fun _ => ⟨(e9 396 0 (by first | decide | omega)).trans k102, fun i hi => (j9 i hi).trans (e102 396 (110 + i) (by first | decide | omega))⟩, fun h9 => absurd hf0 h9⟩
  · refine gx_1f (c := .le) rfl (by first | decide | omega) hc1 rfl ?_
    refine gx_ld (i := 0) (d := 2) (v := gx_r 383) rfl (fun _ => rfl) h0 rfl rfl ?_
    refine gx_get rfl s1.1 rfl s1.2.2.1 rfl ?_
    refine ex_ret (r := (some (.inl f), t1, n, 0)) rfl (fun _ => rfl) ?_
    exact ⟨_, rfl, f, t1, rfl, by omega, fun h9 => by omega, fun _ => rfl⟩
theorem pe_weeks_l (d n : Nat) {S S0 : Nat → Nat} {m N m0 N0 : Nat} {υ : Nat → Nat → Nat} {K : Nat} {p0 : Nat × Nat} {Q : en_O → Prop} (h3 : W3 S0 m0 N0 υ) (hc : WC S0 m0 N0 υ) {ρ0 : Nat → Nat} {tb : en_H} (hQ : ∀ t1 a1 f1 nn cl ρ, px_S t1 a1 f1 → (∀ i, i < 110 → ai_hv t1 396 i = ai_hv tb 396 i) → nn ≤ 24 → (f1 = 0 → ∀ k, k < nn → LRr S0 m0 υ S m N t1 (110 + 4 * k) (ρ k)) → Wx S m N (υ 0 0) (υ 1 0) (tcr S0 m0 υ S m) K 0 ρ0 p0 (wr f1 nn ρ) → en_ld cl 0 = some (gx_r 383) → en_ld cl 1 = some (.inl nn) → en_ex none (en_u (d + 5)) (en_code 35) (fun _ => false) (131, cl, [], t1, n, 0) Q) : ∀ j nn ρ t0 a f cl, (∀ i, i < 110 → ai_hv t0 396 i = ai_hv tb 396 i) → (f = 0 → ∀ k, k < nn → LRr S0 m0 υ S m N t0 (110 + 4 * k) (ρ k)) → (f = 0 → 1000 ≤ a + j) → px_S t0 a f → rT t0 S m N → a ≤ N → TN t0 S0 m0 υ → ai_hv t0 389 0 = some (.inl (υ 0 0)) → ai_hv t0 389 1 = some (.inl (υ 1 0)) → nn ≤ 24 → (∀ f1, Wx S m N (υ 0 0) (υ 1 0) (tcr S0 m0 υ S m) (j + 1) nn ρ (a, f) f1 → Wx S m N (υ 0 0) (υ 1 0) (tcr S0 m0 υ S m) K 0 ρ0 p0 f1) → en_ld cl 0 = some (gx_r 383) → en_ld cl 1 = some (.inl nn) → en_ex none (en_u (d + 5)) (en_code 35) (fun _ => false) (11, cl, [], t0, n, 0) Q := by
  have h4 : υ 4 0 ≤ 2 := h3.1.1.2.2.1
  intro j
  induction j with
  | zero =>
    intro nn ρ t0 a f cl h110 hrw hj s0 hT ha hN ko kd hn hP h0 h1
    have b0 := s0.2.2.2
    have hNN := hT.2.2.2.2.1
    by_cases hf : f = 0
    · subst hf
      refine gx_ld (i := 0) (d := 2) (v := gx_r 383) rfl (fun _ => rfl) h0 rfl rfl ?_
      refine gx_get rfl s0.1 rfl s0.2.2.1 rfl ?_
      refine ex_go (S := (18, cl, [], t0, n, 0)) rfl (fun _ => rfl) rfl ?_
      refine gx_ld (i := 0) (d := 2) (v := gx_r 383) rfl (fun _ => rfl) h0 rfl rfl ?_
      refine gx_ref (c := 385) rfl s0.1 rfl rfl rfl rfl ?_
      refine gx_ld (i := 0) (d := 2) (v := gx_r 383) rfl (fun _ => rfl) h0 rfl rfl ?_
      refine gx_get rfl s0.1 rfl s0.2.1 rfl ?_
      have k1 := rT_sort hT (a := a) (by first | decide | omega)
      have k1b : sp_kt S m N a ≤ 4 := by unfold sp_kt; have := sp_ty_le S m (sp_st S m a); split <;> omega
      refine gx_ag (v := .inl (sp_kt S m N a)) (cb := fun c => Nat.beq c 0) rfl (fun _ => rfl) s0.1 rfl rfl k1 (by first | decide | omega) rfl ?_
      by_cases hc2 : sp_kt S m N a = 0
      · refine gx_1t (c := .eq) rfl (by first | decide | omega) hc2 rfl ?_
        exact hQ t0 a 0 nn _ ρ s0 (fun i hi => (rfl).trans (h110 i hi)) hn (fun _ k hk => LRr_mv (hrw rfl k hk) (fun j hj => rfl)) (hP _ (Or.inr (Or.inl ⟨rfl, sp_kt_0 (S := S) (m := m) (by first | decide | omega), rfl⟩))) h0 h1
      · refine gx_1f (c := .eq) rfl (by first | decide | omega) hc2 rfl ?_
        have haN := sp_kt_lt (S := S) (m := m) (N := N) (a := a) (by first | decide | omega)
        exfalso; omega
    · refine gx_ld (i := 0) (d := 2) (v := gx_r 383) rfl (fun _ => rfl) h0 rfl rfl ?_
      refine gx_get rfl s0.1 rfl s0.2.2.1 rfl ?_
      refine gx_1t (c := .ne) rfl (by first | decide | omega) (show f ≠ 0 from by omega) rfl ?_
      exact hQ t0 a f nn _ ρ s0 (fun i hi => (rfl).trans (h110 i hi)) hn (fun h9 => absurd h9 (by first | decide | omega)) (hP _ (Or.inl ⟨hf, rfl⟩)) h0 h1
  | succ j ih =>
    intro nn ρ t0 a f cl h110 hrw hj s0 hT ha hN ko kd hn hP h0 h1
    have b0 := s0.2.2.2
    have hNN := hT.2.2.2.2.1
    by_cases hf : f = 0
    · subst hf
      refine gx_ld (i := 0) (d := 2) (v := gx_r 383) rfl (fun _ => rfl) h0 rfl rfl ?_
      refine gx_get rfl s0.1 rfl s0.2.2.1 rfl ?_
      refine ex_go (S := (18, cl, [], t0, n, 0)) rfl (fun _ => rfl) rfl ?_
      refine gx_ld (i := 0) (d := 2) (v := gx_r 383) rfl (fun _ => rfl) h0 rfl rfl ?_
      refine gx_ref (c := 385) rfl s0.1 rfl rfl rfl rfl ?_
      refine gx_ld (i := 0) (d := 2) (v := gx_r 383) rfl (fun _ => rfl) h0 rfl rfl ?_
      refine gx_get rfl s0.1 rfl s0.2.1 rfl ?_
      have k1 := rT_sort hT (a := a) (by first | decide | omega)
      have k1b : sp_kt S m N a ≤ 4 := by unfold sp_kt; have := sp_ty_le S m (sp_st S m a); split <;> omega
      refine gx_ag (v := .inl (sp_kt S m N a)) (cb := fun c => Nat.beq c 0) rfl (fun _ => rfl) s0.1 rfl rfl k1 (by first | decide | omega) rfl ?_
      by_cases hc2 : sp_kt S m N a = 0
      · refine gx_1t (c := .eq) rfl (by first | decide | omega) hc2 rfl ?_
        exact hQ t0 a 0 nn _ ρ s0 (fun i hi => (rfl).trans (h110 i hi)) hn (fun _ k hk => LRr_mv (hrw rfl k hk) (fun j hj => rfl)) (hP _ (Or.inr (Or.inl ⟨rfl, sp_kt_0 (S := S) (m := m) (by first | decide | omega), rfl⟩))) h0 h1
      · refine gx_1f (c := .eq) rfl (by first | decide | omega) hc2 rfl ?_
        have haN := sp_kt_lt (S := S) (m := m) (N := N) (a := a) (by first | decide | omega)
        refine gx_ld (i := 0) (d := 2) (v := gx_r 383) rfl (fun _ => rfl) h0 rfl rfl ?_
        refine ex_go (S := (32, cl, [.inl 1, gx_r 383], t0, n, 0)) rfl (fun _ => rfl) rfl ?_
        obtain ⟨_, r5, b3, rfl, q4⟩ := pe_isWord (d + 4) n (s0) hT (by first | decide | omega) (w := 1) (by first | decide | omega)
        refine gx_call1 rfl rfl s0.1 rfl rfl r5 rfl ?_
        by_cases hc6 : b3 = 0
        · refine gx_1t (c := .eq) rfl (by first | decide | omega) hc6 rfl ?_
          refine ex_go (S := (43, cl, [.inl 1], t0, n, 0)) rfl (fun _ => rfl) rfl ?_
          refine gx_ld (i := 0) (d := 2) (v := gx_r 383) rfl (fun _ => rfl) h0 rfl rfl ?_
          refine ex_go (S := (46, cl, [.inl 23, gx_r 383, .inl 1], t0, n, 0)) rfl (fun _ => rfl) rfl ?_
          refine ex_go (S := (47, cl, [.inl 3, .inl 23, gx_r 383, .inl 1], t0, n, 0)) rfl (fun _ => rfl) rfl ?_
          obtain ⟨_, r9, b7, rfl, q8⟩ := pe_wordHere (d + 3) n (s0) hT (by first | decide | omega) (w := 23) (mm := 3) (by first | decide | omega)
          refine gx_call1 rfl rfl s0.1 rfl rfl r9 rfl ?_
          rcases q8 with ⟨hwa, hwb, hwc⟩ | ⟨hwa, hwb⟩
          · refine ex_iadd rfl (by first | decide | omega) rfl ?_
            rcases (show b7 = 0 ∨ b7 = 1 ∨ b7 = 2 by omega) with e9 | e9 | e9
            · subst e9
              show en_ex _ _ _ _ (51, cl, [.inl 1], t0, n, 0) _
              refine gx_sto (i := 2) (d := 0) rfl (fun _ => rfl) rfl rfl (fun l10 hl10 ml10 => ?_)
              have l10_0 : en_ld l10 0 = some (gx_r 383) := ml10 0 _ h0 rfl
              have l10_1 : en_ld l10 1 = some (.inl nn) := ml10 1 _ h1 rfl
              refine gx_ld (i := 2) (d := 0) (v := .inl 1) rfl (fun _ => rfl) hl10 rfl rfl ?_
              refine ex_go (S := (72, l10, [], t0, n, 0)) rfl (fun _ => rfl) rfl ?_
              refine gx_ld (i := 1) (d := 0) (v := .inl nn) rfl (fun _ => rfl) l10_1 rfl rfl ?_
              refine ex_go (S := (75, l10, [.inl 24, .inl nn], t0, n, 0)) rfl (fun _ => rfl) rfl ?_
              by_cases hc11 : nn ≠ 24
              · refine gx_2t (c := .ne) rfl (by first | decide | omega) (by first | decide | omega) hc11 rfl ?_
                refine gx_ld (i := 0) (d := 2) (v := gx_r 383) rfl (fun _ => rfl) l10_0 rfl rfl ?_
                refine ex_go (S := (88, l10, [gx_r 383, gx_r 383], t0, n, 0)) rfl (fun _ => rfl) rfl ?_
                refine gx_get rfl s0.1 rfl s0.2.1 rfl ?_
                refine ex_go (S := (92, l10, [.inl 1, .inl a, gx_r 383], t0, n, 0)) rfl (fun _ => rfl) rfl ?_
                refine ex_iadd rfl (by first | decide | omega) rfl ?_
                refine gx_put rfl s0.1 rfl rfl (ai_in_h (by first | decide | omega) (by first | decide | omega) (by first | decide | omega)) rfl (fun t112 g112 k112 e112 => ?_)
                have k13 : ai_hv t112 389 0 = some (.inl (υ 0 0)) := (e112 389 0 (by first | decide | omega)).trans ko
                have k14 : ai_hv t112 389 1 = some (.inl (υ 1 0)) := (e112 389 1 (by first | decide | omega)).trans kd
                have k15 : ai_hv t112 385 a = some (.inl (sp_kt S m N a)) := (e112 385 a (by first | decide | omega)).trans k1
                have s112 : px_S t112 (a + 1) 0 := ⟨g112, k112, (e112 383 8 (by first | decide | omega)).trans s0.2.2.1, by omega, s0.2.2.2.2⟩
                refine gx_ld (i := 0) (d := 2) (v := gx_r 383) rfl (fun _ => rfl) l10_0 rfl rfl ?_
                refine gx_ref (c := 396) rfl s112.1 rfl rfl rfl rfl ?_
                refine ex_go (S := (102, l10, [.inl 110, gx_r 396], t112, n, 0)) rfl (fun _ => rfl) rfl ?_
                refine ex_go (S := (103, l10, [.inl 4, .inl 110, gx_r 396], t112, n, 0)) rfl (fun _ => rfl) rfl ?_
                refine gx_ld (i := 1) (d := 0) (v := .inl nn) rfl (fun _ => rfl) l10_1 rfl rfl ?_
                refine gx_imul rfl (by first | decide | omega) rfl ?_
                refine ex_iadd rfl (by first | decide | omega) rfl ?_
                refine gx_ld (i := 2) (d := 0) (v := .inl 1) rfl (fun _ => rfl) hl10 rfl rfl ?_
                refine gx_ap rfl (fun _ => rfl) s112.1 rfl rfl rfl (show 110 + (4 * nn) < 210 from by omega) ((gx_run2 (by first | decide | omega)).trans (gx_run1 (show 110 + (4 * nn) < 210 from by omega))) (gx_full (by first | decide | omega)) rfl (fun t116 g116 k116 e116 => ?_)
                have k17 : ai_hv t116 389 0 = some (.inl (υ 0 0)) := (e116 389 0 (by first | decide | omega)).trans k13
                have k18 : ai_hv t116 389 1 = some (.inl (υ 1 0)) := (e116 389 1 (by first | decide | omega)).trans k14
                have k19 : ai_hv t116 385 a = some (.inl (sp_kt S m N a)) := (e116 385 a (by first | decide | omega)).trans k15
                have s116 : px_S t116 (a + 1) 0 := ⟨g116, (e116 383 7 (by first | decide | omega)).trans s112.2.1, (e116 383 8 (by first | decide | omega)).trans s112.2.2.1, s112.2.2.2⟩
                refine gx_ld (i := 0) (d := 2) (v := gx_r 383) rfl (fun _ => rfl) l10_0 rfl rfl ?_
                refine gx_ld (i := 2) (d := 0) (v := .inl 1) rfl (fun _ => rfl) hl10 rfl rfl ?_
                refine ex_go (S := (112, l10, [.inl 111, .inl 1, gx_r 383], t116, n, 0)) rfl (fun _ => rfl) rfl ?_
                refine ex_go (S := (113, l10, [.inl 4, .inl 111, .inl 1, gx_r 383], t116, n, 0)) rfl (fun _ => rfl) rfl ?_
                refine gx_ld (i := 1) (d := 0) (v := .inl nn) rfl (fun _ => rfl) l10_1 rfl rfl ?_
                refine gx_imul rfl (by first | decide | omega) rfl ?_
                refine ex_iadd rfl (by first | decide | omega) rfl ?_
                have hN120 : TN t116 S0 m0 υ := TN_keep hN (fun c i h _ => (e116 c i (by first | decide | omega)).trans (e112 c i (by first | decide | omega))) h4
                have hT21 := rT_keep (t' := t116) hT (fun c i h => (e116 c i (by first | decide | omega)).trans (e112 c i (by first | decide | omega)))
                obtain ⟨_, r120, t120, a120, f120, rfl, s120, e120, z120, qa120, cq120⟩ := pe_readWeek1 d n (i := 111 + (4 * nn)) (s116) hT21 (by first | decide | omega) hN120 h3 hc k17 k18 (by first | decide | omega)
                have b120 := s120.2.2.2
                refine gx_call0 rfl rfl s116.1 rfl rfl r120 rfl ?_
                have k22 : ai_hv t120 389 0 = some (.inl (υ 0 0)) := (e120 389 0 (by first | decide | omega)).trans k17
                have k23 : ai_hv t120 389 1 = some (.inl (υ 1 0)) := (e120 389 1 (by first | decide | omega)).trans k18
                have k24 : ai_hv t120 385 a = some (.inl (sp_kt S m N a)) := (e120 385 a (by first | decide | omega)).trans k19
                have k25 : ai_hv t120 396 (110 + (4 * nn)) = some (.inl 1) := (e120 396 (110 + (4 * nn)) (by first | decide | omega)).trans k116
                refine gx_incS (i := 1) (a := nn) (x := 1) rfl (fun _ => rfl) l10_1 (by first | decide | omega) rfl (fun l26 hl26 ml26 => ?_)
                have l26_0 : en_ld l26 0 = some (gx_r 383) := ml26 0 _ l10_0 rfl
                have l26_2 : en_ld l26 2 = some (.inl 1) := ml26 2 _ hl10 rfl
                refine gx_ld (i := 0) (d := 2) (v := gx_r 383) rfl (fun _ => rfl) l26_0 rfl rfl ?_
                refine ex_go (S := (125, l26, [.inl 59, gx_r 383], t120, n, 0)) rfl (fun _ => rfl) rfl ?_
                have hT27 := rT_keep (t' := t120) hT (fun c i h => (e120 c i (by first | decide | omega)).trans ((e116 c i (by first | decide | omega)).trans (e112 c i (by first | decide | omega))))
                obtain ⟨_, r128, t128, a128, f128, rfl, s128, e128, z128, q128⟩ := pf_takeSign (d + 3) n (s120) hT27 (by first | decide | omega) (w := 59) (by first | decide | omega)
                have b128 := s128.2.2.2
                have hT128 := rT_keep hT27 (fun c i h => e128 c i (by first | decide | omega))
                refine gx_call0 rfl rfl s120.1 rfl rfl r128 rfl ?_
                have k29 : ai_hv t128 389 0 = some (.inl (υ 0 0)) := (e128 389 0 (by first | decide | omega)).trans k22
                have k30 : ai_hv t128 389 1 = some (.inl (υ 1 0)) := (e128 389 1 (by first | decide | omega)).trans k23
                have k31 : ai_hv t128 385 a = some (.inl (sp_kt S m N a)) := (e128 385 a (by first | decide | omega)).trans k24
                have k32 : ai_hv t128 396 (110 + (4 * nn)) = some (.inl 1) := (e128 396 (110 + (4 * nn)) (by first | decide | omega)).trans k25
                refine ex_go (S := (11, l26, [], t128, n, 0)) rfl (fun _ => rfl) rfl ?_
                have hl : wl S m N (υ 0 0) (υ 1 0) nn (tcr S0 m0 υ S m) a (a120, f120) := Or.inr (Or.inl (⟨(show sp_wd S m N a (23 + 0) from hwc), (by rw [fr_yes (show ¬ nn = 24 by omega)]; exact z120)⟩))
                have hrow : f128 = 0 → LRr S0 m0 υ S m N t128 (110 + 4 * nn) a := fun h9 => by
                  have c9 := cq120 (by first | decide | omega)
                  rw [show 111 + (4 * nn) = 110 + 4 * nn + 1 by omega] at c9
                  obtain ⟨⟨x9, x8, x7⟩, x6, x5, x4⟩ := c9
                  exact Or.inr (Or.inl ⟨(show sp_wd S m N a (23 + 0) from hwc), k32, ⟨x9, x8, (e128 396 _ (by first | decide | omega)).trans x7⟩, (e128 396 _ (by first | decide | omega)).trans x6, (e128 396 _ (by first | decide | omega)).trans x5, x4⟩)
                refine ih (nn + 1) (nx ρ nn a) t128 a128 f128 _ (fun i hi => ((e128 396 i (by first | decide | omega)).trans ((e120 396 i (by first | decide | omega)).trans ((e116 396 i (by first | decide | omega)).trans (e112 396 i (by first | decide | omega))))).trans (h110 i hi)) (fun h9 k hk => by
                  by_cases e8 : k = nn
                  · subst e8; rw [nx_t]; exact hrow h9
                  · rw [nx_f e8]; exact LRr_mv (hrw rfl k (by first | decide | omega)) (fun j hj => (e128 396 _ (by first | decide | omega)).trans ((e120 396 _ (by first | decide | omega)).trans ((e116 396 _ (by first | decide | omega)).trans (e112 396 _ (by first | decide | omega)))))) (fun h9 => by omega) s128 hT128 (by first | decide | omega) (TN_keep hN (fun c i h _ => (e128 c i (by first | decide | omega)).trans ((e120 c i (by first | decide | omega)).trans ((e116 c i (by first | decide | omega)).trans (e112 c i (by first | decide | omega))))) h4) k29 k30 (by first | decide | omega) (fun f1 h1 => hP f1 (Or.inr (Or.inr ⟨rfl, haN, (a120, f120), hl, by rw [← z128]; exact h1⟩))) l26_0 hl26
              · refine gx_2f (c := .ne) rfl (by first | decide | omega) (by first | decide | omega) hc11 rfl ?_
                refine gx_ld (i := 0) (d := 2) (v := gx_r 383) rfl (fun _ => rfl) l10_0 rfl rfl ?_
                refine ex_go (S := (80, l10, [.inl 5, gx_r 383], t0, n, 0)) rfl (fun _ => rfl) rfl ?_
                obtain ⟨_, r133, t133, a133, f133, rfl, s133, e133, q133⟩ := pe_wrong (d + 4) n (s0) hT (by first | decide | omega) (w := 5) (by first | decide | omega)
                have b133 := s133.2.2.2
                have hT133 := rT_keep hT (fun c i h => e133 c i (by first | decide | omega))
                refine gx_call0 rfl rfl s0.1 rfl rfl r133 rfl ?_
                have k34 : ai_hv t133 389 0 = some (.inl (υ 0 0)) := (e133 389 0 (by first | decide | omega)).trans ko
                have k35 : ai_hv t133 389 1 = some (.inl (υ 1 0)) := (e133 389 1 (by first | decide | omega)).trans kd
                have k36 : ai_hv t133 385 a = some (.inl (sp_kt S m N a)) := (e133 385 a (by first | decide | omega)).trans k1
                refine ex_go (S := (122, l10, [], t133, n, 0)) rfl (fun _ => rfl) rfl ?_
                refine gx_ld (i := 0) (d := 2) (v := gx_r 383) rfl (fun _ => rfl) l10_0 rfl rfl ?_
                refine ex_go (S := (125, l10, [.inl 59, gx_r 383], t133, n, 0)) rfl (fun _ => rfl) rfl ?_
                have hT37 := rT_keep (t' := t133) hT (fun c i h => e133 c i (by first | decide | omega))
                obtain ⟨_, r138, t138, a138, f138, rfl, s138, e138, z138, q138⟩ := pf_takeSign (d + 3) n (s133) hT37 (by first | decide | omega) (w := 59) (by first | decide | omega)
                have b138 := s138.2.2.2
                have hT138 := rT_keep hT37 (fun c i h => e138 c i (by first | decide | omega))
                refine gx_call0 rfl rfl s133.1 rfl rfl r138 rfl ?_
                have k39 : ai_hv t138 389 0 = some (.inl (υ 0 0)) := (e138 389 0 (by first | decide | omega)).trans k34
                have k40 : ai_hv t138 389 1 = some (.inl (υ 1 0)) := (e138 389 1 (by first | decide | omega)).trans k35
                have k41 : ai_hv t138 385 a = some (.inl (sp_kt S m N a)) := (e138 385 a (by first | decide | omega)).trans k36
                refine ex_go (S := (11, l10, [], t138, n, 0)) rfl (fun _ => rfl) rfl ?_
                have h5 : 5 + 16 * sp_st S m a ≠ 0 := by omega
                have hl : wl S m N (υ 0 0) (υ 1 0) nn (tcr S0 m0 υ S m) a (a133, f133) := Or.inr (Or.inl (⟨(show sp_wd S m N a (23 + 0) from hwc), (by rw [fr_w (show nn = 24 by omega), fk_no h5, fn_no h5, fn_no h5]; exact Prod.ext (by show a133 = a; omega) (by show f133 = 5 + 16 * sp_st S m a; omega))⟩))
                refine ih (nn) ρ t138 a138 f138 _ (fun i hi => ((e138 396 i (by first | decide | omega)).trans (e133 396 i (by first | decide | omega))).trans (h110 i hi)) (fun h9 => absurd h9 (by first | decide | omega)) (fun h9 => by omega) s138 hT138 (by first | decide | omega) (TN_keep hN (fun c i h _ => (e138 c i (by first | decide | omega)).trans (e133 c i (by first | decide | omega))) h4) k39 k40 (by first | decide | omega) (fun f1 h1 => hP f1 (Or.inr (Or.inr ⟨rfl, haN, (a133, f133), hl, by rw [← z138]; exact Wx_any (by show f138 ≠ 0; omega) h1⟩))) l10_0 l10_1
            · subst e9
              show en_ex _ _ _ _ (51, cl, [.inl 2], t0, n, 0) _
              refine gx_sto (i := 2) (d := 0) rfl (fun _ => rfl) rfl rfl (fun l42 hl42 ml42 => ?_)
              have l42_0 : en_ld l42 0 = some (gx_r 383) := ml42 0 _ h0 rfl
              have l42_1 : en_ld l42 1 = some (.inl nn) := ml42 1 _ h1 rfl
              refine gx_ld (i := 2) (d := 0) (v := .inl 2) rfl (fun _ => rfl) hl42 rfl rfl ?_
              refine ex_go (S := (72, l42, [], t0, n, 0)) rfl (fun _ => rfl) rfl ?_
              refine gx_ld (i := 1) (d := 0) (v := .inl nn) rfl (fun _ => rfl) l42_1 rfl rfl ?_
              refine ex_go (S := (75, l42, [.inl 24, .inl nn], t0, n, 0)) rfl (fun _ => rfl) rfl ?_
              by_cases hc43 : nn ≠ 24
              · refine gx_2t (c := .ne) rfl (by first | decide | omega) (by first | decide | omega) hc43 rfl ?_
                refine gx_ld (i := 0) (d := 2) (v := gx_r 383) rfl (fun _ => rfl) l42_0 rfl rfl ?_
                refine ex_go (S := (88, l42, [gx_r 383, gx_r 383], t0, n, 0)) rfl (fun _ => rfl) rfl ?_
                refine gx_get rfl s0.1 rfl s0.2.1 rfl ?_
                refine ex_go (S := (92, l42, [.inl 1, .inl a, gx_r 383], t0, n, 0)) rfl (fun _ => rfl) rfl ?_
                refine ex_iadd rfl (by first | decide | omega) rfl ?_
                refine gx_put rfl s0.1 rfl rfl (ai_in_h (by first | decide | omega) (by first | decide | omega) (by first | decide | omega)) rfl (fun t144 g144 k144 e144 => ?_)
                have k45 : ai_hv t144 389 0 = some (.inl (υ 0 0)) := (e144 389 0 (by first | decide | omega)).trans ko
                have k46 : ai_hv t144 389 1 = some (.inl (υ 1 0)) := (e144 389 1 (by first | decide | omega)).trans kd
                have k47 : ai_hv t144 385 a = some (.inl (sp_kt S m N a)) := (e144 385 a (by first | decide | omega)).trans k1
                have s144 : px_S t144 (a + 1) 0 := ⟨g144, k144, (e144 383 8 (by first | decide | omega)).trans s0.2.2.1, by omega, s0.2.2.2.2⟩
                refine gx_ld (i := 0) (d := 2) (v := gx_r 383) rfl (fun _ => rfl) l42_0 rfl rfl ?_
                refine gx_ref (c := 396) rfl s144.1 rfl rfl rfl rfl ?_
                refine ex_go (S := (102, l42, [.inl 110, gx_r 396], t144, n, 0)) rfl (fun _ => rfl) rfl ?_
                refine ex_go (S := (103, l42, [.inl 4, .inl 110, gx_r 396], t144, n, 0)) rfl (fun _ => rfl) rfl ?_
                refine gx_ld (i := 1) (d := 0) (v := .inl nn) rfl (fun _ => rfl) l42_1 rfl rfl ?_
                refine gx_imul rfl (by first | decide | omega) rfl ?_
                refine ex_iadd rfl (by first | decide | omega) rfl ?_
                refine gx_ld (i := 2) (d := 0) (v := .inl 2) rfl (fun _ => rfl) hl42 rfl rfl ?_
                refine gx_ap rfl (fun _ => rfl) s144.1 rfl rfl rfl (show 110 + (4 * nn) < 210 from by omega) ((gx_run2 (by first | decide | omega)).trans (gx_run1 (show 110 + (4 * nn) < 210 from by omega))) (gx_full (by first | decide | omega)) rfl (fun t148 g148 k148 e148 => ?_)
                have k49 : ai_hv t148 389 0 = some (.inl (υ 0 0)) := (e148 389 0 (by first | decide | omega)).trans k45
                have k50 : ai_hv t148 389 1 = some (.inl (υ 1 0)) := (e148 389 1 (by first | decide | omega)).trans k46
                have k51 : ai_hv t148 385 a = some (.inl (sp_kt S m N a)) := (e148 385 a (by first | decide | omega)).trans k47
                have s148 : px_S t148 (a + 1) 0 := ⟨g148, (e148 383 7 (by first | decide | omega)).trans s144.2.1, (e148 383 8 (by first | decide | omega)).trans s144.2.2.1, s144.2.2.2⟩
                refine gx_ld (i := 0) (d := 2) (v := gx_r 383) rfl (fun _ => rfl) l42_0 rfl rfl ?_
                refine gx_ld (i := 2) (d := 0) (v := .inl 2) rfl (fun _ => rfl) hl42 rfl rfl ?_
                refine ex_go (S := (112, l42, [.inl 111, .inl 2, gx_r 383], t148, n, 0)) rfl (fun _ => rfl) rfl ?_
                refine ex_go (S := (113, l42, [.inl 4, .inl 111, .inl 2, gx_r 383], t148, n, 0)) rfl (fun _ => rfl) rfl ?_
                refine gx_ld (i := 1) (d := 0) (v := .inl nn) rfl (fun _ => rfl) l42_1 rfl rfl ?_
                refine gx_imul rfl (by first | decide | omega) rfl ?_
                refine ex_iadd rfl (by first | decide | omega) rfl ?_
                have hN152 : TN t148 S0 m0 υ := TN_keep hN (fun c i h _ => (e148 c i (by first | decide | omega)).trans (e144 c i (by first | decide | omega))) h4
                have hT53 := rT_keep (t' := t148) hT (fun c i h => (e148 c i (by first | decide | omega)).trans (e144 c i (by first | decide | omega)))
                obtain ⟨_, r152, t152, a152, f152, rfl, s152, e152, z152, qa152, cq152⟩ := pe_readWeek2 d n (i := 111 + (4 * nn)) (s148) hT53 (by first | decide | omega) hN152 h3 hc k49 k50 (by first | decide | omega)
                have b152 := s152.2.2.2
                refine gx_call0 rfl rfl s148.1 rfl rfl r152 rfl ?_
                have k54 : ai_hv t152 389 0 = some (.inl (υ 0 0)) := (e152 389 0 (by first | decide | omega)).trans k49
                have k55 : ai_hv t152 389 1 = some (.inl (υ 1 0)) := (e152 389 1 (by first | decide | omega)).trans k50
                have k56 : ai_hv t152 385 a = some (.inl (sp_kt S m N a)) := (e152 385 a (by first | decide | omega)).trans k51
                have k57 : ai_hv t152 396 (110 + (4 * nn)) = some (.inl 2) := (e152 396 (110 + (4 * nn)) (by first | decide | omega)).trans k148
                refine gx_incS (i := 1) (a := nn) (x := 1) rfl (fun _ => rfl) l42_1 (by first | decide | omega) rfl (fun l58 hl58 ml58 => ?_)
                have l58_0 : en_ld l58 0 = some (gx_r 383) := ml58 0 _ l42_0 rfl
                have l58_2 : en_ld l58 2 = some (.inl 2) := ml58 2 _ hl42 rfl
                refine gx_ld (i := 0) (d := 2) (v := gx_r 383) rfl (fun _ => rfl) l58_0 rfl rfl ?_
                refine ex_go (S := (125, l58, [.inl 59, gx_r 383], t152, n, 0)) rfl (fun _ => rfl) rfl ?_
                have hT59 := rT_keep (t' := t152) hT (fun c i h => (e152 c i (by first | decide | omega)).trans ((e148 c i (by first | decide | omega)).trans (e144 c i (by first | decide | omega))))
                obtain ⟨_, r160, t160, a160, f160, rfl, s160, e160, z160, q160⟩ := pf_takeSign (d + 3) n (s152) hT59 (by first | decide | omega) (w := 59) (by first | decide | omega)
                have b160 := s160.2.2.2
                have hT160 := rT_keep hT59 (fun c i h => e160 c i (by first | decide | omega))
                refine gx_call0 rfl rfl s152.1 rfl rfl r160 rfl ?_
                have k61 : ai_hv t160 389 0 = some (.inl (υ 0 0)) := (e160 389 0 (by first | decide | omega)).trans k54
                have k62 : ai_hv t160 389 1 = some (.inl (υ 1 0)) := (e160 389 1 (by first | decide | omega)).trans k55
                have k63 : ai_hv t160 385 a = some (.inl (sp_kt S m N a)) := (e160 385 a (by first | decide | omega)).trans k56
                have k64 : ai_hv t160 396 (110 + (4 * nn)) = some (.inl 2) := (e160 396 (110 + (4 * nn)) (by first | decide | omega)).trans k57
                refine ex_go (S := (11, l58, [], t160, n, 0)) rfl (fun _ => rfl) rfl ?_
                have hl : wl S m N (υ 0 0) (υ 1 0) nn (tcr S0 m0 υ S m) a (a152, f152) := Or.inr (Or.inr (Or.inl (⟨(show sp_wd S m N a (23 + 1) from hwc), (by rw [fr_yes (show ¬ nn = 24 by omega)]; exact z152)⟩)))
                have hrow : f160 = 0 → LRr S0 m0 υ S m N t160 (110 + 4 * nn) a := fun h9 => by
                  have c9 := cq152 (by first | decide | omega)
                  rw [show 111 + (4 * nn) = 110 + 4 * nn + 1 by omega] at c9
                  obtain ⟨⟨x9, x8, x7⟩, x6, x4⟩ := c9
                  exact Or.inr (Or.inr (Or.inl ⟨(show sp_wd S m N a (23 + 1) from hwc), k64, ⟨x9, x8, (e160 396 _ (by first | decide | omega)).trans x7⟩, (e160 396 _ (by first | decide | omega)).trans x6, x4⟩))
                refine ih (nn + 1) (nx ρ nn a) t160 a160 f160 _ (fun i hi => ((e160 396 i (by first | decide | omega)).trans ((e152 396 i (by first | decide | omega)).trans ((e148 396 i (by first | decide | omega)).trans (e144 396 i (by first | decide | omega))))).trans (h110 i hi)) (fun h9 k hk => by
                  by_cases e8 : k = nn
                  · subst e8; rw [nx_t]; exact hrow h9
                  · rw [nx_f e8]; exact LRr_mv (hrw rfl k (by first | decide | omega)) (fun j hj => (e160 396 _ (by first | decide | omega)).trans ((e152 396 _ (by first | decide | omega)).trans ((e148 396 _ (by first | decide | omega)).trans (e144 396 _ (by first | decide | omega)))))) (fun h9 => by omega) s160 hT160 (by first | decide | omega) (TN_keep hN (fun c i h _ => (e160 c i (by first | decide | omega)).trans ((e152 c i (by first | decide | omega)).trans ((e148 c i (by first | decide | omega)).trans (e144 c i (by first | decide | omega))))) h4) k61 k62 (by first | decide | omega) (fun f1 h1 => hP f1 (Or.inr (Or.inr ⟨rfl, haN, (a152, f152), hl, by rw [← z160]; exact h1⟩))) l58_0 hl58
              · refine gx_2f (c := .ne) rfl (by first | decide | omega) (by first | decide | omega) hc43 rfl ?_
                refine gx_ld (i := 0) (d := 2) (v := gx_r 383) rfl (fun _ => rfl) l42_0 rfl rfl ?_
                refine ex_go (S := (80, l42, [.inl 5, gx_r 383], t0, n, 0)) rfl (fun _ => rfl) rfl ?_
                obtain ⟨_, r165, t165, a165, f165, rfl, s165, e165, q165⟩ := pe_wrong (d + 4) n (s0) hT (by first | decide | omega) (w := 5) (by first | decide | omega)
                have b165 := s165.2.2.2
                have hT165 := rT_keep hT (fun c i h => e165 c i (by first | decide | omega))
                refine gx_call0 rfl rfl s0.1 rfl rfl r165 rfl ?_
                have k66 : ai_hv t165 389 0 = some (.inl (υ 0 0)) := (e165 389 0 (by first | decide | omega)).trans ko
                have k67 : ai_hv t165 389 1 = some (.inl (υ 1 0)) := (e165 389 1 (by first | decide | omega)).trans kd
                have k68 : ai_hv t165 385 a = some (.inl (sp_kt S m N a)) := (e165 385 a (by first | decide | omega)).trans k1
                refine ex_go (S := (122, l42, [], t165, n, 0)) rfl (fun _ => rfl) rfl ?_
                refine gx_ld (i := 0) (d := 2) (v := gx_r 383) rfl (fun _ => rfl) l42_0 rfl rfl ?_
                refine ex_go (S := (125, l42, [.inl 59, gx_r 383], t165, n, 0)) rfl (fun _ => rfl) rfl ?_
                have hT69 := rT_keep (t' := t165) hT (fun c i h => e165 c i (by first | decide | omega))
                obtain ⟨_, r170, t170, a170, f170, rfl, s170, e170, z170, q170⟩ := pf_takeSign (d + 3) n (s165) hT69 (by first | decide | omega) (w := 59) (by first | decide | omega)
                have b170 := s170.2.2.2
                have hT170 := rT_keep hT69 (fun c i h => e170 c i (by first | decide | omega))
                refine gx_call0 rfl rfl s165.1 rfl rfl r170 rfl ?_
                have k71 : ai_hv t170 389 0 = some (.inl (υ 0 0)) := (e170 389 0 (by first | decide | omega)).trans k66
                have k72 : ai_hv t170 389 1 = some (.inl (υ 1 0)) := (e170 389 1 (by first | decide | omega)).trans k67
                have k73 : ai_hv t170 385 a = some (.inl (sp_kt S m N a)) := (e170 385 a (by first | decide | omega)).trans k68
                refine ex_go (S := (11, l42, [], t170, n, 0)) rfl (fun _ => rfl) rfl ?_
                have h5 : 5 + 16 * sp_st S m a ≠ 0 := by omega
                have hl : wl S m N (υ 0 0) (υ 1 0) nn (tcr S0 m0 υ S m) a (a165, f165) := Or.inr (Or.inr (Or.inl (⟨(show sp_wd S m N a (23 + 1) from hwc), (by rw [fr_w (show nn = 24 by omega), fk_no h5, fn_no h5]; exact Prod.ext (by show a165 = a; omega) (by show f165 = 5 + 16 * sp_st S m a; omega))⟩)))
                refine ih (nn) ρ t170 a170 f170 _ (fun i hi => ((e170 396 i (by first | decide | omega)).trans (e165 396 i (by first | decide | omega))).trans (h110 i hi)) (fun h9 => absurd h9 (by first | decide | omega)) (fun h9 => by omega) s170 hT170 (by first | decide | omega) (TN_keep hN (fun c i h _ => (e170 c i (by first | decide | omega)).trans (e165 c i (by first | decide | omega))) h4) k71 k72 (by first | decide | omega) (fun f1 h1 => hP f1 (Or.inr (Or.inr ⟨rfl, haN, (a165, f165), hl, by rw [← z170]; exact Wx_any (by show f170 ≠ 0; omega) h1⟩))) l42_0 l42_1
            · subst e9
              show en_ex _ _ _ _ (51, cl, [.inl 3], t0, n, 0) _
              refine gx_sto (i := 2) (d := 0) rfl (fun _ => rfl) rfl rfl (fun l74 hl74 ml74 => ?_)
              have l74_0 : en_ld l74 0 = some (gx_r 383) := ml74 0 _ h0 rfl
              have l74_1 : en_ld l74 1 = some (.inl nn) := ml74 1 _ h1 rfl
              refine gx_ld (i := 2) (d := 0) (v := .inl 3) rfl (fun _ => rfl) hl74 rfl rfl ?_
              refine ex_go (S := (72, l74, [], t0, n, 0)) rfl (fun _ => rfl) rfl ?_
              refine gx_ld (i := 1) (d := 0) (v := .inl nn) rfl (fun _ => rfl) l74_1 rfl rfl ?_
              refine ex_go (S := (75, l74, [.inl 24, .inl nn], t0, n, 0)) rfl (fun _ => rfl) rfl ?_
              by_cases hc75 : nn ≠ 24
              · refine gx_2t (c := .ne) rfl (by first | decide | omega) (by first | decide | omega) hc75 rfl ?_
                refine gx_ld (i := 0) (d := 2) (v := gx_r 383) rfl (fun _ => rfl) l74_0 rfl rfl ?_
                refine ex_go (S := (88, l74, [gx_r 383, gx_r 383], t0, n, 0)) rfl (fun _ => rfl) rfl ?_
                refine gx_get rfl s0.1 rfl s0.2.1 rfl ?_
                refine ex_go (S := (92, l74, [.inl 1, .inl a, gx_r 383], t0, n, 0)) rfl (fun _ => rfl) rfl ?_
                refine ex_iadd rfl (by first | decide | omega) rfl ?_
                refine gx_put rfl s0.1 rfl rfl (ai_in_h (by first | decide | omega) (by first | decide | omega) (by first | decide | omega)) rfl (fun t176 g176 k176 e176 => ?_)
                have k77 : ai_hv t176 389 0 = some (.inl (υ 0 0)) := (e176 389 0 (by first | decide | omega)).trans ko
                have k78 : ai_hv t176 389 1 = some (.inl (υ 1 0)) := (e176 389 1 (by first | decide | omega)).trans kd
                have k79 : ai_hv t176 385 a = some (.inl (sp_kt S m N a)) := (e176 385 a (by first | decide | omega)).trans k1
                have s176 : px_S t176 (a + 1) 0 := ⟨g176, k176, (e176 383 8 (by first | decide | omega)).trans s0.2.2.1, by omega, s0.2.2.2.2⟩
                refine gx_ld (i := 0) (d := 2) (v := gx_r 383) rfl (fun _ => rfl) l74_0 rfl rfl ?_
                refine gx_ref (c := 396) rfl s176.1 rfl rfl rfl rfl ?_
                refine ex_go (S := (102, l74, [.inl 110, gx_r 396], t176, n, 0)) rfl (fun _ => rfl) rfl ?_
                refine ex_go (S := (103, l74, [.inl 4, .inl 110, gx_r 396], t176, n, 0)) rfl (fun _ => rfl) rfl ?_
                refine gx_ld (i := 1) (d := 0) (v := .inl nn) rfl (fun _ => rfl) l74_1 rfl rfl ?_
                refine gx_imul rfl (by first | decide | omega) rfl ?_
                refine ex_iadd rfl (by first | decide | omega) rfl ?_
                refine gx_ld (i := 2) (d := 0) (v := .inl 3) rfl (fun _ => rfl) hl74 rfl rfl ?_
                refine gx_ap rfl (fun _ => rfl) s176.1 rfl rfl rfl (show 110 + (4 * nn) < 210 from by omega) ((gx_run2 (by first | decide | omega)).trans (gx_run1 (show 110 + (4 * nn) < 210 from by omega))) (gx_full (by first | decide | omega)) rfl (fun t180 g180 k180 e180 => ?_)
                have k81 : ai_hv t180 389 0 = some (.inl (υ 0 0)) := (e180 389 0 (by first | decide | omega)).trans k77
                have k82 : ai_hv t180 389 1 = some (.inl (υ 1 0)) := (e180 389 1 (by first | decide | omega)).trans k78
                have k83 : ai_hv t180 385 a = some (.inl (sp_kt S m N a)) := (e180 385 a (by first | decide | omega)).trans k79
                have s180 : px_S t180 (a + 1) 0 := ⟨g180, (e180 383 7 (by first | decide | omega)).trans s176.2.1, (e180 383 8 (by first | decide | omega)).trans s176.2.2.1, s176.2.2.2⟩
                refine gx_ld (i := 0) (d := 2) (v := gx_r 383) rfl (fun _ => rfl) l74_0 rfl rfl ?_
                refine gx_ld (i := 2) (d := 0) (v := .inl 3) rfl (fun _ => rfl) hl74 rfl rfl ?_
                refine ex_go (S := (112, l74, [.inl 111, .inl 3, gx_r 383], t180, n, 0)) rfl (fun _ => rfl) rfl ?_
                refine ex_go (S := (113, l74, [.inl 4, .inl 111, .inl 3, gx_r 383], t180, n, 0)) rfl (fun _ => rfl) rfl ?_
                refine gx_ld (i := 1) (d := 0) (v := .inl nn) rfl (fun _ => rfl) l74_1 rfl rfl ?_
                refine gx_imul rfl (by first | decide | omega) rfl ?_
                refine ex_iadd rfl (by first | decide | omega) rfl ?_
                have hN184 : TN t180 S0 m0 υ := TN_keep hN (fun c i h _ => (e180 c i (by first | decide | omega)).trans (e176 c i (by first | decide | omega))) h4
                have hT85 := rT_keep (t' := t180) hT (fun c i h => (e180 c i (by first | decide | omega)).trans (e176 c i (by first | decide | omega)))
                obtain ⟨_, r184, t184, a184, f184, rfl, s184, e184, z184, qa184, cq184⟩ := pe_readWeek3 d n (i := 111 + (4 * nn)) (s180) hT85 (by first | decide | omega) hN184 h3 hc k81 k82 (by first | decide | omega)
                have b184 := s184.2.2.2
                refine gx_call0 rfl rfl s180.1 rfl rfl r184 rfl ?_
                have k86 : ai_hv t184 389 0 = some (.inl (υ 0 0)) := (e184 389 0 (by first | decide | omega)).trans k81
                have k87 : ai_hv t184 389 1 = some (.inl (υ 1 0)) := (e184 389 1 (by first | decide | omega)).trans k82
                have k88 : ai_hv t184 385 a = some (.inl (sp_kt S m N a)) := (e184 385 a (by first | decide | omega)).trans k83
                have k89 : ai_hv t184 396 (110 + (4 * nn)) = some (.inl 3) := (e184 396 (110 + (4 * nn)) (by first | decide | omega)).trans k180
                refine gx_incS (i := 1) (a := nn) (x := 1) rfl (fun _ => rfl) l74_1 (by first | decide | omega) rfl (fun l90 hl90 ml90 => ?_)
                have l90_0 : en_ld l90 0 = some (gx_r 383) := ml90 0 _ l74_0 rfl
                have l90_2 : en_ld l90 2 = some (.inl 3) := ml90 2 _ hl74 rfl
                refine gx_ld (i := 0) (d := 2) (v := gx_r 383) rfl (fun _ => rfl) l90_0 rfl rfl ?_
                refine ex_go (S := (125, l90, [.inl 59, gx_r 383], t184, n, 0)) rfl (fun _ => rfl) rfl ?_
                have hT91 := rT_keep (t' := t184) hT (fun c i h => (e184 c i (by first | decide | omega)).trans ((e180 c i (by first | decide | omega)).trans (e176 c i (by first | decide | omega))))
                obtain ⟨_, r192, t192, a192, f192, rfl, s192, e192, z192, q192⟩ := pf_takeSign (d + 3) n (s184) hT91 (by first | decide | omega) (w := 59) (by first | decide | omega)
                have b192 := s192.2.2.2
                have hT192 := rT_keep hT91 (fun c i h => e192 c i (by first | decide | omega))
                refine gx_call0 rfl rfl s184.1 rfl rfl r192 rfl ?_
                have k93 : ai_hv t192 389 0 = some (.inl (υ 0 0)) := (e192 389 0 (by first | decide | omega)).trans k86
                have k94 : ai_hv t192 389 1 = some (.inl (υ 1 0)) := (e192 389 1 (by first | decide | omega)).trans k87
                have k95 : ai_hv t192 385 a = some (.inl (sp_kt S m N a)) := (e192 385 a (by first | decide | omega)).trans k88
                have k96 : ai_hv t192 396 (110 + (4 * nn)) = some (.inl 3) := (e192 396 (110 + (4 * nn)) (by first | decide | omega)).trans k89
                refine ex_go (S := (11, l90, [], t192, n, 0)) rfl (fun _ => rfl) rfl ?_
                have hl : wl S m N (υ 0 0) (υ 1 0) nn (tcr S0 m0 υ S m) a (a184, f184) := Or.inr (Or.inr (Or.inr (Or.inl (⟨(show sp_wd S m N a (23 + 2) from hwc), (by rw [fr_yes (show ¬ nn = 24 by omega)]; exact z184)⟩))))
                have hrow : f192 = 0 → LRr S0 m0 υ S m N t192 (110 + 4 * nn) a := fun h9 => by
                  have c9 := cq184 (by first | decide | omega)
                  rw [show 111 + (4 * nn) = 110 + 4 * nn + 1 by omega] at c9
                  obtain ⟨x9, x8, x7⟩ := c9
                  exact Or.inr (Or.inr (Or.inr ⟨(show sp_wd S m N a (23 + 2) from hwc), k96, x9, x8, (e192 396 _ (by first | decide | omega)).trans x7⟩))
                refine ih (nn + 1) (nx ρ nn a) t192 a192 f192 _ (fun i hi => ((e192 396 i (by first | decide | omega)).trans ((e184 396 i (by first | decide | omega)).trans ((e180 396 i (by first | decide | omega)).trans (e176 396 i (by first | decide | omega))))).trans (h110 i hi)) (fun h9 k hk => by
                  by_cases e8 : k = nn
                  · subst e8; rw [nx_t]; exact hrow h9
                  · rw [nx_f e8]; exact LRr_mv (hrw rfl k (by first | decide | omega)) (fun j hj => (e192 396 _ (by first | decide | omega)).trans ((e184 396 _ (by first | decide | omega)).trans ((e180 396 _ (by first | decide | omega)).trans (e176 396 _ (by first | decide | omega)))))) (fun h9 => by omega) s192 hT192 (by first | decide | omega) (TN_keep hN (fun c i h _ => (e192 c i (by first | decide | omega)).trans ((e184 c i (by first | decide | omega)).trans ((e180 c i (by first | decide | omega)).trans (e176 c i (by first | decide | omega))))) h4) k93 k94 (by first | decide | omega) (fun f1 h1 => hP f1 (Or.inr (Or.inr ⟨rfl, haN, (a184, f184), hl, by rw [← z192]; exact h1⟩))) l90_0 hl90
              · refine gx_2f (c := .ne) rfl (by first | decide | omega) (by first | decide | omega) hc75 rfl ?_
                refine gx_ld (i := 0) (d := 2) (v := gx_r 383) rfl (fun _ => rfl) l74_0 rfl rfl ?_
                refine ex_go (S := (80, l74, [.inl 5, gx_r 383], t0, n, 0)) rfl (fun _ => rfl) rfl ?_
                obtain ⟨_, r197, t197, a197, f197, rfl, s197, e197, q197⟩ := pe_wrong (d + 4) n (s0) hT (by first | decide | omega) (w := 5) (by first | decide | omega)
                have b197 := s197.2.2.2
                have hT197 := rT_keep hT (fun c i h => e197 c i (by first | decide | omega))
                refine gx_call0 rfl rfl s0.1 rfl rfl r197 rfl ?_
                have k98 : ai_hv t197 389 0 = some (.inl (υ 0 0)) := (e197 389 0 (by first | decide | omega)).trans ko
                have k99 : ai_hv t197 389 1 = some (.inl (υ 1 0)) := (e197 389 1 (by first | decide | omega)).trans kd
                have k100 : ai_hv t197 385 a = some (.inl (sp_kt S m N a)) := (e197 385 a (by first | decide | omega)).trans k1
                refine ex_go (S := (122, l74, [], t197, n, 0)) rfl (fun _ => rfl) rfl ?_
                refine gx_ld (i := 0) (d := 2) (v := gx_r 383) rfl (fun _ => rfl) l74_0 rfl rfl ?_
                refine ex_go (S := (125, l74, [.inl 59, gx_r 383], t197, n, 0)) rfl (fun _ => rfl) rfl ?_
                have hT101 := rT_keep (t' := t197) hT (fun c i h => e197 c i (by first | decide | omega))
                obtain ⟨_, r202, t202, a202, f202, rfl, s202, e202, z202, q202⟩ := pf_takeSign (d + 3) n (s197) hT101 (by first | decide | omega) (w := 59) (by first | decide | omega)
                have b202 := s202.2.2.2
                have hT202 := rT_keep hT101 (fun c i h => e202 c i (by first | decide | omega))
                refine gx_call0 rfl rfl s197.1 rfl rfl r202 rfl ?_
                have k103 : ai_hv t202 389 0 = some (.inl (υ 0 0)) := (e202 389 0 (by first | decide | omega)).trans k98
                have k104 : ai_hv t202 389 1 = some (.inl (υ 1 0)) := (e202 389 1 (by first | decide | omega)).trans k99
                have k105 : ai_hv t202 385 a = some (.inl (sp_kt S m N a)) := (e202 385 a (by first | decide | omega)).trans k100
                refine ex_go (S := (11, l74, [], t202, n, 0)) rfl (fun _ => rfl) rfl ?_
                have h5 : 5 + 16 * sp_st S m a ≠ 0 := by omega
                have hl : wl S m N (υ 0 0) (υ 1 0) nn (tcr S0 m0 υ S m) a (a197, f197) := Or.inr (Or.inr (Or.inr (Or.inl (⟨(show sp_wd S m N a (23 + 2) from hwc), (by rw [fr_w (show nn = 24 by omega), fk_no h5]; exact Prod.ext (by show a197 = a; omega) (by show f197 = 5 + 16 * sp_st S m a; omega))⟩))))
                refine ih (nn) ρ t202 a202 f202 _ (fun i hi => ((e202 396 i (by first | decide | omega)).trans (e197 396 i (by first | decide | omega))).trans (h110 i hi)) (fun h9 => absurd h9 (by first | decide | omega)) (fun h9 => by omega) s202 hT202 (by first | decide | omega) (TN_keep hN (fun c i h _ => (e202 c i (by first | decide | omega)).trans (e197 c i (by first | decide | omega))) h4) k103 k104 (by first | decide | omega) (fun f1 h1 => hP f1 (Or.inr (Or.inr ⟨rfl, haN, (a197, f197), hl, by rw [← z202]; exact Wx_any (by show f202 ≠ 0; omega) h1⟩))) l74_0 l74_1
          · subst hwa
            refine ex_go (S := (51, cl, [.inl 0], t0, n, 0)) rfl (fun _ => rfl) rfl ?_
            refine gx_sto (i := 2) (d := 0) rfl (fun _ => rfl) rfl rfl (fun l106 hl106 ml106 => ?_)
            have l106_0 : en_ld l106 0 = some (gx_r 383) := ml106 0 _ h0 rfl
            have l106_1 : en_ld l106 1 = some (.inl nn) := ml106 1 _ h1 rfl
            refine gx_ld (i := 2) (d := 0) (v := .inl 0) rfl (fun _ => rfl) hl106 rfl rfl ?_
            refine ex_go (S := (56, l106, [], t0, n, 0)) rfl (fun _ => rfl) rfl ?_
            refine gx_ld (i := 0) (d := 2) (v := gx_r 383) rfl (fun _ => rfl) l106_0 rfl rfl ?_
            refine ex_go (S := (58, l106, [.inl 1, gx_r 383], t0, n, 0)) rfl (fun _ => rfl) rfl ?_
            obtain ⟨_, r109, b107, rfl, q108⟩ := pe_isWord (d + 4) n (s0) hT (by first | decide | omega) (w := 1) (by first | decide | omega)
            refine gx_call1 rfl rfl s0.1 rfl rfl r109 rfl ?_
            by_cases hc110 : b107 ≠ 0
            · refine gx_1t (c := .ne) rfl (by first | decide | omega) hc110 rfl ?_
              exact absurd (q4.2.mpr (q108.2.mp (by first | decide | omega))) (by first | decide | omega)
            · refine gx_1f (c := .ne) rfl (by first | decide | omega) hc110 rfl ?_
              refine gx_ld (i := 0) (d := 2) (v := gx_r 383) rfl (fun _ => rfl) l106_0 rfl rfl ?_
              refine ex_go (S := (66, l106, [.inl 1, gx_r 383], t0, n, 0)) rfl (fun _ => rfl) rfl ?_
              obtain ⟨_, r211, t211, a211, f211, rfl, s211, e211, q211⟩ := pe_wrong (d + 4) n (s0) hT (by first | decide | omega) (w := 1) (by first | decide | omega)
              have b211 := s211.2.2.2
              have hT211 := rT_keep hT (fun c i h => e211 c i (by first | decide | omega))
              refine gx_call0 rfl rfl s0.1 rfl rfl r211 rfl ?_
              have k112 : ai_hv t211 389 0 = some (.inl (υ 0 0)) := (e211 389 0 (by first | decide | omega)).trans ko
              have k113 : ai_hv t211 389 1 = some (.inl (υ 1 0)) := (e211 389 1 (by first | decide | omega)).trans kd
              have k114 : ai_hv t211 385 a = some (.inl (sp_kt S m N a)) := (e211 385 a (by first | decide | omega)).trans k1
              refine ex_go (S := (122, l106, [], t211, n, 0)) rfl (fun _ => rfl) rfl ?_
              refine gx_ld (i := 0) (d := 2) (v := gx_r 383) rfl (fun _ => rfl) l106_0 rfl rfl ?_
              refine ex_go (S := (125, l106, [.inl 59, gx_r 383], t211, n, 0)) rfl (fun _ => rfl) rfl ?_
              have hT115 := rT_keep (t' := t211) hT (fun c i h => e211 c i (by first | decide | omega))
              obtain ⟨_, r216, t216, a216, f216, rfl, s216, e216, z216, q216⟩ := pf_takeSign (d + 3) n (s211) hT115 (by first | decide | omega) (w := 59) (by first | decide | omega)
              have b216 := s216.2.2.2
              have hT216 := rT_keep hT115 (fun c i h => e216 c i (by first | decide | omega))
              refine gx_call0 rfl rfl s211.1 rfl rfl r216 rfl ?_
              have k117 : ai_hv t216 389 0 = some (.inl (υ 0 0)) := (e216 389 0 (by first | decide | omega)).trans k112
              have k118 : ai_hv t216 389 1 = some (.inl (υ 1 0)) := (e216 389 1 (by first | decide | omega)).trans k113
              have k119 : ai_hv t216 385 a = some (.inl (sp_kt S m N a)) := (e216 385 a (by first | decide | omega)).trans k114
              refine ex_go (S := (11, l106, [], t216, n, 0)) rfl (fun _ => rfl) rfl ?_
              have hno : ∀ w, w = 1 ∨ w = 23 ∨ w = 24 ∨ w = 25 → ¬ sp_wd S m N a w := by
                intro w hw z
                rcases (show w = 1 ∨ (w = 23 + (w - 23) ∧ w - 23 < 3) by omega) with h | ⟨h, h8⟩
                · rw [h] at z; exact absurd (q4.2.mpr ⟨rfl, z⟩) (by first | decide | omega)
                · rw [h] at z; exact hwb (w - 23) h8 ⟨rfl, z⟩
              have hl : wl S m N (υ 0 0) (υ 1 0) nn (tcr S0 m0 υ S m) a (a211, f211) := Or.inr (Or.inr (Or.inr (Or.inr ⟨hno, (by unfold fx; exact Prod.ext (by show a211 = a; omega) (by show f211 = 1 + 16 * sp_st S m a; omega))⟩)))
              refine ih (nn) ρ t216 a216 f216 _ (fun i hi => ((e216 396 i (by first | decide | omega)).trans (e211 396 i (by first | decide | omega))).trans (h110 i hi)) (fun h9 => absurd h9 (by first | decide | omega)) (fun h9 => by omega) s216 hT216 (by first | decide | omega) (TN_keep hN (fun c i h _ => (e216 c i (by first | decide | omega)).trans (e211 c i (by first | decide | omega))) h4) k117 k118 (by first | decide | omega) (fun f1 h1 => hP f1 (Or.inr (Or.inr ⟨rfl, haN, (a211, f211), hl, by rw [← z216]; exact Wx_any (by show f216 ≠ 0; omega) h1⟩))) l106_0 l106_1
        · refine gx_1f (c := .eq) rfl (by first | decide | omega) hc6 rfl ?_
          refine ex_go (S := (39, cl, [.inl 0], t0, n, 0)) rfl (fun _ => rfl) rfl ?_
          refine ex_go (S := (51, cl, [.inl 0], t0, n, 0)) rfl (fun _ => rfl) rfl ?_
          refine gx_sto (i := 2) (d := 0) rfl (fun _ => rfl) rfl rfl (fun l120 hl120 ml120 => ?_)
          have l120_0 : en_ld l120 0 = some (gx_r 383) := ml120 0 _ h0 rfl
          have l120_1 : en_ld l120 1 = some (.inl nn) := ml120 1 _ h1 rfl
          refine gx_ld (i := 2) (d := 0) (v := .inl 0) rfl (fun _ => rfl) hl120 rfl rfl ?_
          refine ex_go (S := (56, l120, [], t0, n, 0)) rfl (fun _ => rfl) rfl ?_
          refine gx_ld (i := 0) (d := 2) (v := gx_r 383) rfl (fun _ => rfl) l120_0 rfl rfl ?_
          refine ex_go (S := (58, l120, [.inl 1, gx_r 383], t0, n, 0)) rfl (fun _ => rfl) rfl ?_
          obtain ⟨_, r123, b121, rfl, q122⟩ := pe_isWord (d + 4) n (s0) hT (by first | decide | omega) (w := 1) (by first | decide | omega)
          refine gx_call1 rfl rfl s0.1 rfl rfl r123 rfl ?_
          by_cases hc124 : b121 ≠ 0
          · refine gx_1t (c := .ne) rfl (by first | decide | omega) hc124 rfl ?_
            refine gx_ld (i := 1) (d := 0) (v := .inl nn) rfl (fun _ => rfl) l120_1 rfl rfl ?_
            refine ex_go (S := (75, l120, [.inl 24, .inl nn], t0, n, 0)) rfl (fun _ => rfl) rfl ?_
            by_cases hc125 : nn ≠ 24
            · refine gx_2t (c := .ne) rfl (by first | decide | omega) (by first | decide | omega) hc125 rfl ?_
              refine gx_ld (i := 0) (d := 2) (v := gx_r 383) rfl (fun _ => rfl) l120_0 rfl rfl ?_
              refine ex_go (S := (88, l120, [gx_r 383, gx_r 383], t0, n, 0)) rfl (fun _ => rfl) rfl ?_
              refine gx_get rfl s0.1 rfl s0.2.1 rfl ?_
              refine ex_go (S := (92, l120, [.inl 1, .inl a, gx_r 383], t0, n, 0)) rfl (fun _ => rfl) rfl ?_
              refine ex_iadd rfl (by first | decide | omega) rfl ?_
              refine gx_put rfl s0.1 rfl rfl (ai_in_h (by first | decide | omega) (by first | decide | omega) (by first | decide | omega)) rfl (fun t226 g226 k226 e226 => ?_)
              have k127 : ai_hv t226 389 0 = some (.inl (υ 0 0)) := (e226 389 0 (by first | decide | omega)).trans ko
              have k128 : ai_hv t226 389 1 = some (.inl (υ 1 0)) := (e226 389 1 (by first | decide | omega)).trans kd
              have k129 : ai_hv t226 385 a = some (.inl (sp_kt S m N a)) := (e226 385 a (by first | decide | omega)).trans k1
              have s226 : px_S t226 (a + 1) 0 := ⟨g226, k226, (e226 383 8 (by first | decide | omega)).trans s0.2.2.1, by omega, s0.2.2.2.2⟩
              refine gx_ld (i := 0) (d := 2) (v := gx_r 383) rfl (fun _ => rfl) l120_0 rfl rfl ?_
              refine gx_ref (c := 396) rfl s226.1 rfl rfl rfl rfl ?_
              refine ex_go (S := (102, l120, [.inl 110, gx_r 396], t226, n, 0)) rfl (fun _ => rfl) rfl ?_
              refine ex_go (S := (103, l120, [.inl 4, .inl 110, gx_r 396], t226, n, 0)) rfl (fun _ => rfl) rfl ?_
              refine gx_ld (i := 1) (d := 0) (v := .inl nn) rfl (fun _ => rfl) l120_1 rfl rfl ?_
              refine gx_imul rfl (by first | decide | omega) rfl ?_
              refine ex_iadd rfl (by first | decide | omega) rfl ?_
              refine gx_ld (i := 2) (d := 0) (v := .inl 0) rfl (fun _ => rfl) hl120 rfl rfl ?_
              refine gx_ap rfl (fun _ => rfl) s226.1 rfl rfl rfl (show 110 + (4 * nn) < 210 from by omega) ((gx_run2 (by first | decide | omega)).trans (gx_run1 (show 110 + (4 * nn) < 210 from by omega))) (gx_full (by first | decide | omega)) rfl (fun t230 g230 k230 e230 => ?_)
              have k131 : ai_hv t230 389 0 = some (.inl (υ 0 0)) := (e230 389 0 (by first | decide | omega)).trans k127
              have k132 : ai_hv t230 389 1 = some (.inl (υ 1 0)) := (e230 389 1 (by first | decide | omega)).trans k128
              have k133 : ai_hv t230 385 a = some (.inl (sp_kt S m N a)) := (e230 385 a (by first | decide | omega)).trans k129
              have s230 : px_S t230 (a + 1) 0 := ⟨g230, (e230 383 7 (by first | decide | omega)).trans s226.2.1, (e230 383 8 (by first | decide | omega)).trans s226.2.2.1, s226.2.2.2⟩
              refine gx_ld (i := 0) (d := 2) (v := gx_r 383) rfl (fun _ => rfl) l120_0 rfl rfl ?_
              refine gx_ld (i := 2) (d := 0) (v := .inl 0) rfl (fun _ => rfl) hl120 rfl rfl ?_
              refine ex_go (S := (112, l120, [.inl 111, .inl 0, gx_r 383], t230, n, 0)) rfl (fun _ => rfl) rfl ?_
              refine ex_go (S := (113, l120, [.inl 4, .inl 111, .inl 0, gx_r 383], t230, n, 0)) rfl (fun _ => rfl) rfl ?_
              refine gx_ld (i := 1) (d := 0) (v := .inl nn) rfl (fun _ => rfl) l120_1 rfl rfl ?_
              refine gx_imul rfl (by first | decide | omega) rfl ?_
              refine ex_iadd rfl (by first | decide | omega) rfl ?_
              have hN234 : TN t230 S0 m0 υ := TN_keep hN (fun c i h _ => (e230 c i (by first | decide | omega)).trans (e226 c i (by first | decide | omega))) h4
              have hT135 := rT_keep (t' := t230) hT (fun c i h => (e230 c i (by first | decide | omega)).trans (e226 c i (by first | decide | omega)))
              obtain ⟨_, r234, t234, a234, f234, rfl, s234, e234, z234, qa234, cq234⟩ := pe_readWeek0 d n (i := 111 + (4 * nn)) (s230) hT135 (by first | decide | omega) hN234 h3 hc k131 k132 (by first | decide | omega)
              have b234 := s234.2.2.2
              refine gx_call0 rfl rfl s230.1 rfl rfl r234 rfl ?_
              have k136 : ai_hv t234 389 0 = some (.inl (υ 0 0)) := (e234 389 0 (by first | decide | omega)).trans k131
              have k137 : ai_hv t234 389 1 = some (.inl (υ 1 0)) := (e234 389 1 (by first | decide | omega)).trans k132
              have k138 : ai_hv t234 385 a = some (.inl (sp_kt S m N a)) := (e234 385 a (by first | decide | omega)).trans k133
              have k139 : ai_hv t234 396 (110 + (4 * nn)) = some (.inl 0) := (e234 396 (110 + (4 * nn)) (by first | decide | omega)).trans k230
              refine gx_incS (i := 1) (a := nn) (x := 1) rfl (fun _ => rfl) l120_1 (by first | decide | omega) rfl (fun l140 hl140 ml140 => ?_)
              have l140_0 : en_ld l140 0 = some (gx_r 383) := ml140 0 _ l120_0 rfl
              have l140_2 : en_ld l140 2 = some (.inl 0) := ml140 2 _ hl120 rfl
              refine gx_ld (i := 0) (d := 2) (v := gx_r 383) rfl (fun _ => rfl) l140_0 rfl rfl ?_
              refine ex_go (S := (125, l140, [.inl 59, gx_r 383], t234, n, 0)) rfl (fun _ => rfl) rfl ?_
              have hT141 := rT_keep (t' := t234) hT (fun c i h => (e234 c i (by first | decide | omega)).trans ((e230 c i (by first | decide | omega)).trans (e226 c i (by first | decide | omega))))
              obtain ⟨_, r242, t242, a242, f242, rfl, s242, e242, z242, q242⟩ := pf_takeSign (d + 3) n (s234) hT141 (by first | decide | omega) (w := 59) (by first | decide | omega)
              have b242 := s242.2.2.2
              have hT242 := rT_keep hT141 (fun c i h => e242 c i (by first | decide | omega))
              refine gx_call0 rfl rfl s234.1 rfl rfl r242 rfl ?_
              have k143 : ai_hv t242 389 0 = some (.inl (υ 0 0)) := (e242 389 0 (by first | decide | omega)).trans k136
              have k144 : ai_hv t242 389 1 = some (.inl (υ 1 0)) := (e242 389 1 (by first | decide | omega)).trans k137
              have k145 : ai_hv t242 385 a = some (.inl (sp_kt S m N a)) := (e242 385 a (by first | decide | omega)).trans k138
              have k146 : ai_hv t242 396 (110 + (4 * nn)) = some (.inl 0) := (e242 396 (110 + (4 * nn)) (by first | decide | omega)).trans k139
              refine ex_go (S := (11, l140, [], t242, n, 0)) rfl (fun _ => rfl) rfl ?_
              have hl : wl S m N (υ 0 0) (υ 1 0) nn (tcr S0 m0 υ S m) a (a234, f234) := Or.inl (⟨(q4.2.mp (by first | decide | omega)).2, (by rw [fr_yes (show ¬ nn = 24 by omega)]; exact z234)⟩)
              have hrow : f242 = 0 → LRr S0 m0 υ S m N t242 (110 + 4 * nn) a := fun h9 => by
                have c9 := cq234 (by first | decide | omega)
                rw [show 111 + (4 * nn) = 110 + 4 * nn + 1 by omega] at c9
                obtain ⟨c9, c8⟩ := c9
                exact Or.inl ⟨(q4.2.mp (by first | decide | omega)).2, k146, (e242 396 _ (by first | decide | omega)).trans c9, c8⟩
              refine ih (nn + 1) (nx ρ nn a) t242 a242 f242 _ (fun i hi => ((e242 396 i (by first | decide | omega)).trans ((e234 396 i (by first | decide | omega)).trans ((e230 396 i (by first | decide | omega)).trans (e226 396 i (by first | decide | omega))))).trans (h110 i hi)) (fun h9 k hk => by
                by_cases e8 : k = nn
                · subst e8; rw [nx_t]; exact hrow h9
                · rw [nx_f e8]; exact LRr_mv (hrw rfl k (by first | decide | omega)) (fun j hj => (e242 396 _ (by first | decide | omega)).trans ((e234 396 _ (by first | decide | omega)).trans ((e230 396 _ (by first | decide | omega)).trans (e226 396 _ (by first | decide | omega)))))) (fun h9 => by omega) s242 hT242 (by first | decide | omega) (TN_keep hN (fun c i h _ => (e242 c i (by first | decide | omega)).trans ((e234 c i (by first | decide | omega)).trans ((e230 c i (by first | decide | omega)).trans (e226 c i (by first | decide | omega))))) h4) k143 k144 (by first | decide | omega) (fun f1 h1 => hP f1 (Or.inr (Or.inr ⟨rfl, haN, (a234, f234), hl, by rw [← z242]; exact h1⟩))) l140_0 hl140
            · refine gx_2f (c := .ne) rfl (by first | decide | omega) (by first | decide | omega) hc125 rfl ?_
              refine gx_ld (i := 0) (d := 2) (v := gx_r 383) rfl (fun _ => rfl) l120_0 rfl rfl ?_
              refine ex_go (S := (80, l120, [.inl 5, gx_r 383], t0, n, 0)) rfl (fun _ => rfl) rfl ?_
              obtain ⟨_, r247, t247, a247, f247, rfl, s247, e247, q247⟩ := pe_wrong (d + 4) n (s0) hT (by first | decide | omega) (w := 5) (by first | decide | omega)
              have b247 := s247.2.2.2
              have hT247 := rT_keep hT (fun c i h => e247 c i (by first | decide | omega))
              refine gx_call0 rfl rfl s0.1 rfl rfl r247 rfl ?_
              have k148 : ai_hv t247 389 0 = some (.inl (υ 0 0)) := (e247 389 0 (by first | decide | omega)).trans ko
              have k149 : ai_hv t247 389 1 = some (.inl (υ 1 0)) := (e247 389 1 (by first | decide | omega)).trans kd
              have k150 : ai_hv t247 385 a = some (.inl (sp_kt S m N a)) := (e247 385 a (by first | decide | omega)).trans k1
              refine ex_go (S := (122, l120, [], t247, n, 0)) rfl (fun _ => rfl) rfl ?_
              refine gx_ld (i := 0) (d := 2) (v := gx_r 383) rfl (fun _ => rfl) l120_0 rfl rfl ?_
              refine ex_go (S := (125, l120, [.inl 59, gx_r 383], t247, n, 0)) rfl (fun _ => rfl) rfl ?_
              have hT151 := rT_keep (t' := t247) hT (fun c i h => e247 c i (by first | decide | omega))
              obtain ⟨_, r252, t252, a252, f252, rfl, s252, e252, z252, q252⟩ := pf_takeSign (d + 3) n (s247) hT151 (by first | decide | omega) (w := 59) (by first | decide | omega)
              have b252 := s252.2.2.2
              have hT252 := rT_keep hT151 (fun c i h => e252 c i (by first | decide | omega))
              refine gx_call0 rfl rfl s247.1 rfl rfl r252 rfl ?_
              have k153 : ai_hv t252 389 0 = some (.inl (υ 0 0)) := (e252 389 0 (by first | decide | omega)).trans k148
              have k154 : ai_hv t252 389 1 = some (.inl (υ 1 0)) := (e252 389 1 (by first | decide | omega)).trans k149
              have k155 : ai_hv t252 385 a = some (.inl (sp_kt S m N a)) := (e252 385 a (by first | decide | omega)).trans k150
              refine ex_go (S := (11, l120, [], t252, n, 0)) rfl (fun _ => rfl) rfl ?_
              have h5 : 5 + 16 * sp_st S m a ≠ 0 := by omega
              have hl : wl S m N (υ 0 0) (υ 1 0) nn (tcr S0 m0 υ S m) a (a247, f247) := Or.inl (⟨(q4.2.mp (by first | decide | omega)).2, (by rw [fr_w (show nn = 24 by omega), fn_no h5]; exact Prod.ext (by show a247 = a; omega) (by show f247 = 5 + 16 * sp_st S m a; omega))⟩)
              refine ih (nn) ρ t252 a252 f252 _ (fun i hi => ((e252 396 i (by first | decide | omega)).trans (e247 396 i (by first | decide | omega))).trans (h110 i hi)) (fun h9 => absurd h9 (by first | decide | omega)) (fun h9 => by omega) s252 hT252 (by first | decide | omega) (TN_keep hN (fun c i h _ => (e252 c i (by first | decide | omega)).trans (e247 c i (by first | decide | omega))) h4) k153 k154 (by first | decide | omega) (fun f1 h1 => hP f1 (Or.inr (Or.inr ⟨rfl, haN, (a247, f247), hl, by rw [← z252]; exact Wx_any (by show f252 ≠ 0; omega) h1⟩))) l120_0 l120_1
          · refine gx_1f (c := .ne) rfl (by first | decide | omega) hc124 rfl ?_
            exact absurd (q122.2.mpr (q4.2.mp (by first | decide | omega))) (by first | decide | omega)
    · refine gx_ld (i := 0) (d := 2) (v := gx_r 383) rfl (fun _ => rfl) h0 rfl rfl ?_
      refine gx_get rfl s0.1 rfl s0.2.2.1 rfl ?_
      refine gx_1t (c := .ne) rfl (by first | decide | omega) (show f ≠ 0 from by omega) rfl ?_
      exact hQ t0 a f nn _ ρ s0 (fun i hi => (rfl).trans (h110 i hi)) hn (fun h9 => absurd h9 (by first | decide | omega)) (hP _ (Or.inl ⟨hf, rfl⟩)) h0 h1
theorem pe_weeks (d n : Nat) {t0 : en_H} {S S0 : Nat → Nat} {m m0 N0 : Nat} {υ : Nat → Nat → Nat} (g0 : ai_HG ah_G t0) (hm : m ≤ 1000) (km : ai_hv t0 383 2 = some (.inl m)) (hS : ∀ i, i < m → ai_hv t0 384 i = some (.inl (S i)) ∧ S i ≤ 127) (hW : ∀ w, w < 42 → ai_hv t0 388 w = some (.inr (.inl (wd_37 w)))) (hN : TN t0 S0 m0 υ) (h3 : W3 S0 m0 N0 υ) (hc : WC S0 m0 N0 υ) (ko : ai_hv t0 389 0 = some (.inl (υ 0 0))) (kd : ai_hv t0 389 1 = some (.inl (υ 1 0))) : ∃ r, en_u (d + 6) 35 [gx_r 383] t0 n = some r ∧ ∃ v t', r = (some (.inl v), t', n, 0) ∧ ∃ N, (∀ j, j < N → sp_st S m j < m) ∧ sp_st S m N = m ∧ ∃ nl ρ, Wx S m N (υ 0 0) (υ 1 0) (tcr S0 m0 υ S m) 1001 0 (fun _ => 0) (0, 0) (wr v nl ρ) ∧ (v ≠ 0 → ∀ i, i < 110 → ai_hv t' 396 i = ai_hv t0 396 i) ∧ (v = 0 → nl ≤ 24 ∧ ai_hv t' 396 0 = some (.inl nl) ∧ ∀ k, k < nl → LRr S0 m0 υ S m N t' (1 + 4 * k) (ρ k)) := by
  have h4 : υ 4 0 ≤ 2 := h3.1.1.2.2.1
  obtain ⟨a, ka, -, ha⟩ := gx_in (c := 383) (i := 7) (lo := 0) (hi := 1000) g0 rfl rfl rfl rfl
  obtain ⟨f, kf, -, hf⟩ := gx_in (c := 383) (i := 8) (lo := 0) (hi := 20000) g0 rfl rfl rfl rfl
  have s0 : px_S t0 a f := ⟨g0, ka, kf, ha, hf⟩
  refine en_u_ex (d := d + 5) rfl ?_
  show en_ex _ _ _ _ (0, [(0, gx_r 383)], [], t0, n, 0) _
  refine ex_go (S := (1, [(0, gx_r 383)], [gx_r 383], t0, n, 0)) rfl (fun _ => rfl) rfl ?_
  refine ex_go (S := (2, [(0, gx_r 383)], [.inl 0, gx_r 383], t0, n, 0)) rfl (fun _ => rfl) rfl ?_
  refine gx_put rfl s0.1 rfl rfl (ai_in_h (by first | decide | omega) (by first | decide | omega) (by first | decide | omega)) rfl (fun t101 g101 k101 e101 => ?_)
  have k2 : ai_hv t101 383 2 = some (.inl m) := (e101 383 2 (by first | decide | omega)).trans km
  have k3 : ai_hv t101 389 0 = some (.inl (υ 0 0)) := (e101 389 0 (by first | decide | omega)).trans ko
  have k4 : ai_hv t101 389 1 = some (.inl (υ 1 0)) := (e101 389 1 (by first | decide | omega)).trans kd
  have s101 : px_S t101 a f := ⟨g101, (e101 383 7 (by first | decide | omega)).trans s0.2.1, (e101 383 8 (by first | decide | omega)).trans s0.2.2.1, s0.2.2.2⟩
  refine ex_go (S := (6, [(0, gx_r 383)], [gx_r 383], t101, n, 0)) rfl (fun _ => rfl) rfl ?_
  obtain ⟨_, r105, t105, rfl, s105, k105, e105, N, hNm, hR1, hR2, hR3, hR4⟩ := pe_cutAll (d + 2) n (m := m) s101.1 hm k2 (fun i hi => ⟨(e101 384 i (by first | decide | omega)).trans (hS i hi).1, Nat.le_trans (hS i hi).2 (by decide)⟩)
  refine gx_call0 rfl rfl s101.1 rfl rfl r105 rfl ?_
  have hT : rT t105 S m N := ⟨hR1, hR2, hR3, hR4, ⟨hNm, hm⟩, fun w hw => (e105 388 w (by first | decide | omega)).trans ((e101 388 w (by first | decide | omega)).trans (hW w hw)), fun i hi => (hS i hi).2⟩
  have k6 : ai_hv t105 389 0 = some (.inl (υ 0 0)) := (e105 389 0 (by first | decide | omega)).trans k3
  have k7 : ai_hv t105 389 1 = some (.inl (υ 1 0)) := (e105 389 1 (by first | decide | omega)).trans k4
  have k8 : ai_hv t105 383 0 = some (.inl 0) := (e105 383 0 (by first | decide | omega)).trans k101
  refine ex_go (S := (10, [(0, gx_r 383)], [.inl 0], t105, n, 0)) rfl (fun _ => rfl) rfl ?_
  refine ex_go (S := (11, [(1, .inl 0), (0, gx_r 383)], [], t105, n, 0)) rfl (fun _ => rfl) rfl ?_
  refine pe_weeks_l d n (K := 1001) (p0 := (0, 0)) h3 hc (ρ0 := fun _ => 0) (tb := t0) (fun t1 a1 f1 nn cl ρ s1 h110 hn hrw hk h0 h1 => ex_imp (fun o9 h9 => ?_) (pe_131 d n s1 hn h0 h1)) 1000 0 (fun _ => 0) t105 0 0 _ (fun i hi => (e105 396 i (by first | decide | omega)).trans (e101 396 i (by first | decide | omega))) (fun _ k hk => absurd hk (Nat.not_lt_zero k)) (by first | decide | omega) s105 hT (by first | decide | omega) (TN_keep hN (fun c i h _ => (e105 c i (by first | decide | omega)).trans (e101 c i (by first | decide | omega))) h4) k6 k7 (by first | decide | omega) (fun f1 h => h) rfl rfl
  obtain ⟨r9, z1, v9, t9, z2, z3, z4, z5⟩ := h9
  subst z3
  exact ⟨r9, z1, v9, t9, z2, N, fun j hj => (hT.1 j hj).1, hT.2.1, nn, ρ, hk, (fun h9 i hi => by rw [z5 h9]; exact h110 i hi), fun h9 => ⟨hn, (z4 h9).1, fun k hk => LRr_mv (hrw h9 k hk) (fun j hj => by
    rw [show 1 + 4 * k + j = 1 + (4 * k + j) by omega, show 110 + 4 * k + j = 110 + (4 * k + j) by omega]
    exact (z4 h9).2 _ (by first | decide | omega))⟩⟩
end SWS
