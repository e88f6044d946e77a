section AI12
variable {G : ai_G} {cs : Nat → List ai_C} {wr : ai_W} {t0 : en_H} {f : en_F} {n : Nat} {code : Nat → Option en_I} {dr : Nat → List ai_sp} {cuts : List ai_K} {outs : List (Option ai_v × ai_O)}
/-! ### methods that end, or come to their throw -/
noncomputable def ai_Ps (G : ai_G) (wr : ai_W) (t0 : en_H) (n : Nat) (outs : List (Option ai_v × ai_O)) (cuts : List ai_K) (sp : Nat) (o : en_O) : Prop := ai_P G wr t0 n outs o ∨ ∃ c ∈ cuts, c.1 = sp ∧ ∃ (cl : en_L) (cst : List en_V) (t : en_H), o = .inr (sp, cl, cst, t, n, 0) ∧ ai_Ks G wr t0 c cl cst t
theorem ai_go_sk {sp : Nat} (hsp : ai_nil (ai_csat cuts sp) = false) {ρ : Nat → Nat} (hρ : ∀ i, ρ i < 4294967296) (hcs : ∀ mi c, c ∈ cs mi → ai_cok G f mi c) {rk : List (Nat × Nat)}
    (ih : ∀ c ∈ cuts, Nat.beq c.1 sp = false → ∀ (cl : en_L) (cst : List en_V) (t : en_H), ai_Ks G wr t0 c cl cst t → ai_rkv (ai_rho cl) c.2.2.2.2 < ai_rkv ρ rk → en_ex none f code (fun pc => Nat.beq pc sp) (c.1, cl, cst, t, n, 0) (ai_Ps G wr t0 n outs cuts sp)) :
    ∀ (fuel : Nat) (A : ai_S) (cl : en_L) (cst : List en_V) (t : en_H), ai_go G cs wr code dr cuts outs rk fuel A = true → ai_St G wr ρ t0 A cl cst t → en_ex none f code (fun pc => Nat.beq pc sp) (A.1, cl, cst, t, n, 0) (ai_Ps G wr t0 n outs cuts sp)
  | 0, A, cl, cst, t, h, _ => by cases h
  | fuel + 1, A, cl, cst, t, h, hS => by
    have h : (match code A.1 with
      | some e => ai_all (fun A1 => match ai_step G cs wr A1.1 e A1.2.1 A1.2.2.1 A1.2.2.2 with
        | some (.inl As) => ai_all (fun A2 => bif ai_nil (ai_csat cuts A2.1) then ai_go G cs wr code dr cuts outs rk fuel A2 else ai_any (fun c => bif ai_at G A2 c then (bif Nat.beq (en_len rk) (en_len c.2.2.2.2) then ai_rkd A2.2.1 rk c.2.2.2.2 else false) else false) (ai_csat cuts A2.1)) As
        | some (.inr R) => ai_any (ai_reo G R) outs
        | none => false) (ai_sps G (dr A.1) A)
      | none => false) = true := h
    cases hc : code A.1 with
    | none => rw [hc] at h; cases h
    | some e =>
      rw [hc] at h
      dsimp only at h
      obtain ⟨A1, a1, a2, hS1⟩ := ai_sps_ok (qs := dr A.1) hS
      have h := ai_all_ok h A1 a1
      obtain ⟨ins, nx, x1, x2⟩ := e
      split at h
      · rename_i As hst
        obtain ⟨pc', cl', cst', t', hk, A2, b1, b2, hS2⟩ := ai_step_ok (n := n) (sl := 0) hcs hst hS1.1 hS1.2.1 hS1.2.2
        have h := ai_all_ok h A2 b1
        rw [a2] at hk
        cases d0 : Nat.beq pc' sp with
        | true =>
          have e0 := Nat.eq_of_beq_eq_true d0
          have d1 : ai_nil (ai_csat cuts A2.1) = false := by rw [b2, e0]; exact hsp
          rw [d1] at h
          obtain ⟨c, k1, k2⟩ := ai_any_ok h
          unfold ai_csat at k1
          rw [en_flt_eq, List.mem_filter] at k1
          have k3 := Nat.eq_of_beq_eq_true k1.2
          cases d2 : ai_at G A2 c with
          | false => rw [d2] at k2; cases k2
          | true => exact ex_stop (S := (pc', cl', cst', t', n, 0)) hc hk d0 (Or.inr ⟨c, k1.1, by rw [k3, b2, e0], cl', cst', t', by rw [e0], ai_at_ok d2 hS2⟩)
        | false =>
        refine ex_go (S := (pc', cl', cst', t', n, 0)) hc hk d0 ?_
        rw [← b2]
        cases d1 : ai_nil (ai_csat cuts A2.1) with
        | true =>
          rw [d1] at h
          exact ai_go_sk hsp hρ hcs ih fuel A2 cl' cst' t' h hS2
        | false =>
          rw [d1] at h
          obtain ⟨c, k1, k2⟩ := ai_any_ok h
          unfold ai_csat at k1
          rw [en_flt_eq, List.mem_filter] at k1
          have k3 := Nat.eq_of_beq_eq_true k1.2
          cases d2 : ai_at G A2 c with
          | false => rw [d2] at k2; cases k2
          | true =>
            rw [d2] at k2
            dsimp only [cond] at k2
            cases d3 : Nat.beq (en_len rk) (en_len c.2.2.2.2) with
            | false => rw [d3] at k2; cases k2
            | true =>
              rw [d3] at k2
              have d3 := Nat.eq_of_beq_eq_true d3
              rw [en_len_eq, en_len_eq] at d3
              rw [← k3]
              exact ih c k1.1 (by rw [k3, b2]; exact d0) cl' cst' t' (ai_at_ok d2 hS2) (ai_rkd_ok hS2.1 hρ d3 k2)
      · rename_i R hst
        obtain ⟨v, hk, hv, hH⟩ := ai_step_ok (n := n) (sl := 0) hcs hst hS1.1 hS1.2.1 hS1.2.2
        rw [a2] at hk
        obtain ⟨o, o1, o2⟩ := ai_any_ok h
        obtain ⟨r1, r2⟩ := ai_reo_ok o2 hv hH.1 hH.2.1
        exact ex_ret (r := (v, t, n, 0)) hc hk (Or.inl ⟨v, t, rfl, hH.1, hH.2.2.1, hH.2.2.2, o, o1, r1, r2⟩)
      · cases h
noncomputable def ai_chs (G : ai_G) (cs : Nat → List ai_C) (code : Nat → Option en_I) (ml : Nat) (dr : Nat → List ai_sp) (cuts : List ai_K) (rk : List (Nat × Nat)) (fuel sp : Nat) (c : ai_C) : Bool :=
  bif ai_nil (ai_csat cuts sp) then false else bif Nat.ble (ai_sum c.2.1) ml then (bif ai_all ai_nt c.2.1 then (bif ai_go G cs c.2.2.2.1 code dr cuts c.2.2.2.2 rk fuel (0, ai_args c.2.1 0, [], c.2.2.1) then ai_all (fun k => bif Nat.beq k.1 sp then true else ai_go G cs c.2.2.2.1 code dr cuts c.2.2.2.2 k.2.2.2.2 fuel (k.1, ai_tag k.2.2.2.2 k.2.1, k.2.2.1, k.2.2.2.1)) cuts else false) else false) else false
theorem ai_chs_ok {c : ai_C} {sp ml fuel : Nat} {rk : List (Nat × Nat)} (h : ai_chs G cs (en_code c.1) ml dr cuts rk fuel sp c = true) (hcs : ∀ mi c, c ∈ cs mi → ai_cok G f mi c) (ρ : Nat → Nat) (as : List en_V) (t : en_H) (n : Nat) (hs : ai_rvs ρ c.2.1 as) (hG : ai_HG G t) (hO : ai_HO c.2.2.1 t) (hEt : ai_E t) : Nat.ble (en_sum as) ml = true ∧ en_ex none f (en_code c.1) (fun pc => Nat.beq pc sp) (0, en_args as 0, [], t, n, 0) (ai_Ps G c.2.2.2.1 t n c.2.2.2.2 cuts sp) := by
  unfold ai_chs at h
  cases c0 : ai_nil (ai_csat cuts sp) with
  | true => rw [c0] at h; cases h
  | false =>
  rw [c0] at h
  dsimp only [cond] at h
  cases c1 : Nat.ble (ai_sum c.2.1) ml with
  | false => rw [c1] at h; cases h
  | true =>
    rw [c1] at h
    dsimp only [cond] at h
    cases c2 : ai_all ai_nt c.2.1 with
    | false => rw [c2] at h; cases h
    | true =>
      rw [c2] at h
      dsimp only [cond] at h
      cases c3 : ai_go G cs c.2.2.2.1 (en_code c.1) dr cuts c.2.2.2.2 rk fuel (0, ai_args c.2.1 0, [], c.2.2.1) with
      | false => rw [c3] at h; cases h
      | true =>
        rw [c3] at h
        dsimp only [cond] at h
        have hs : ai_rvs (fun _ => 0) c.2.1 as := ai_nts_ok c2 hs
        have hcut : ∀ (N : Nat) (k : ai_K), k ∈ cuts → Nat.beq k.1 sp = false → ∀ (cl : en_L) (cst : List en_V) (t' : en_H), ai_rkv (ai_rho cl) k.2.2.2.2 = N → ai_Ks G c.2.2.2.1 t k cl cst t' → en_ex none f (en_code c.1) (fun pc => Nat.beq pc sp) (k.1, cl, cst, t', n, 0) (ai_Ps G c.2.2.2.1 t n c.2.2.2.2 cuts sp) := by
          intro N
          induction N using Nat.strongRecOn with
          | _ N ih =>
            intro k hk hks cl cst t' hN hK
            have h1 := ai_all_ok h k hk
            rw [hks] at h1
            dsimp only [cond] at h1
            have hl : ai_lr (ai_rho cl) k.2.1 cl := by
              intro i a ha
              have hm : ∀ {l : ai_L}, ai_ld l i = some a → ∃ q ∈ l, q.1 = i ∧ q.2 = a := by
                intro l
                induction l with
                | nil => intro h; cases h
                | cons q l ih9 =>
                  intro h
                  have h : (bif Nat.beq q.1 i then some q.2 else ai_ld l i) = some a := h
                  cases hb : Nat.beq q.1 i with
                  | true =>
                    rw [hb] at h
                    exact ⟨q, List.mem_cons_self, Nat.eq_of_beq_eq_true hb, Option.some.inj h⟩
                  | false =>
                    rw [hb] at h
                    obtain ⟨p, p1, p2⟩ := ih9 h
                    exact ⟨p, List.mem_cons_of_mem _ p1, p2⟩
              obtain ⟨q, q1, q2, q3⟩ := hm ha
              obtain ⟨v, v1, v2⟩ := hK.1 q q1
              rw [q2] at v1
              rw [q3] at v2
              exact ⟨v, v1, v2 _⟩
            exact ai_go_sk c0 (dr := dr) (cuts := cuts) (rk := k.2.2.2.2) (ai_rho_lt cl) hcs (fun c' hc' hcs' cl' cst' t'' hK' hlt => ih _ (by rw [← hN]; exact hlt) c' hc' hcs' cl' cst' t'' rfl hK') fuel (k.1, ai_tag k.2.2.2.2 k.2.1, k.2.2.1, k.2.2.2.1) cl cst t' h1 ⟨ai_tag_ok hl _, hK.2.1 _, hK.2.2⟩
        have hx := ai_go_sk c0 (dr := dr) (cuts := cuts) (rk := rk) (ρ := fun _ => 0) (n := n) (fun _ => by decide) hcs (fun c' hc' hcs' cl' cst' t'' hK' _ => hcut _ c' hc' hcs' cl' cst' t'' rfl hK') fuel (0, ai_args c.2.1 0, [], c.2.2.1) (en_args as 0) [] t c3 ⟨ai_rls_lr (ai_args_ok 0 hs), trivial, hG, hO, ai_FR.rf _ _, hEt⟩
        exact ⟨by rw [ai_sum_ok hs]; exact c1, hx⟩
end AI12
