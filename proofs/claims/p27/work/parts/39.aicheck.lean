section AI11
/-! ### a contract's certificate: splits by pc, cuts, the entry's rank -/
noncomputable def ai_nt : ai_v → Bool
  | .inl q => (match q.2.2 with | none => true | some _ => false)
  | .inr _ => true
theorem ai_nt_ok {ρ ρ' : Nat → Nat} {a : ai_v} {v : en_V} (h : ai_nt a = true) (hv : ai_rv ρ a v) : ai_rv ρ' a v := by
  match a, h, hv with
  | .inl (lo, hi, none), _, ⟨m, e, h1, h2, h3, _⟩ => exact ⟨m, e, h1, h2, h3, trivial⟩
  | .inl (lo, hi, some _), h, _ => cases h
  | .inr (.inl none), _, hv => exact hv
  | .inr (.inl (some c)), _, hv => exact hv
  | .inr (.inr c), _, hv => exact hv
theorem ai_nts_ok {ρ ρ' : Nat → Nat} : ∀ {as : List ai_v} {vs : List en_V}, ai_all ai_nt as = true → ai_rvs ρ as vs → ai_rvs ρ' as vs
  | [], vs, _, h => by rw [ai_rvs_nil h]; exact trivial
  | a :: as, vs, h, hv => by
    obtain ⟨v, ws, rfl, h1, h2⟩ := ai_rvs_cons hv
    have h : (bif ai_nt a then ai_all ai_nt as else false) = true := h
    cases hn : ai_nt a with
    | false => rw [hn] at h; cases h
    | true =>
      rw [hn] at h
      exact ⟨ai_nt_ok hn h1, ai_nts_ok h h2⟩
/-- a state comes to a cut -/
noncomputable def ai_at (G : ai_G) (A : ai_S) (c : ai_K) : Bool := bif ai_all (fun q => match ai_ld A.2.1 q.1 with | some a => bif ai_vle a q.2 then ai_nt q.2 else false | none => false) c.2.1 then (bif ai_vsle A.2.2.1 c.2.2.1 then (bif ai_all ai_nt c.2.2.1 then ai_all (ai_ent G A.2.2.2) c.2.2.2.1 else false) else false) else false
noncomputable def ai_reo (G : ai_G) (R : Option ai_v × ai_O) (o : Option ai_v × ai_O) : Bool := bif (match R.1, o.1 with
  | none, none => true
  | some a, some b => bif ai_vle a b then ai_nt b else false
  | _, _ => false) then ai_all (ai_ent G R.2) o.2 else false
noncomputable def ai_csat (cuts : List ai_K) (pc : Nat) : List ai_K := en_flt (fun c => Nat.beq c.1 pc) cuts
noncomputable def ai_nil {α : Type} (l : List α) : Bool := match l with | [] => true | _ :: _ => false
noncomputable def ai_go (G : ai_G) (cs : Nat → List ai_C) (wr : ai_W) (code : Nat → Option en_I) (dr : Nat → List ai_sp) (cuts : List ai_K) (outs : List (Option ai_v × ai_O)) (rk : List (Nat × Nat)) (fuel : Nat) : ai_S → Bool := Nat.rec (motive := fun _ => ai_S → Bool) (fun _ => false) (fun _ ih A => match code A.1 with
  | some e => ai_all (fun A1 => match ai_step G cs wr A1.1 e A1.2.1 A1.2.2.1 A1.2.2.2 with
    | some (.inl As) => ai_all (fun A2 => bif ai_nil (ai_csat cuts A2.1) then ih A2 else ai_any (fun c => bif ai_at G A2 c then (bif Nat.beq (en_len rk) (en_len c.2.2.2.2) then ai_rkd A2.2.1 rk c.2.2.2.2 else false) else false) (ai_csat cuts A2.1)) As
    | some (.inr R) => ai_any (ai_reo G R) outs
    | none => false) (ai_sps G (dr A.1) A)
  | none => false) fuel
variable {G : ai_G} {cs : Nat → List ai_C} {wr : ai_W} {t0 : en_H} {f : en_F} {n : Nat} {code : Nat → Option en_I} {dr : Nat → List ai_sp} {cuts : List ai_K} {outs : List (Option ai_v × ai_O)}
/-- the end that a contract asks for -/
noncomputable def ai_P (G : ai_G) (wr : ai_W) (t0 : en_H) (n : Nat) (outs : List (Option ai_v × ai_O)) (o : en_O) : Prop := ∃ (v : Option en_V) (t : en_H), o = .inl (v, t, n, 0) ∧ ai_HG G t ∧ ai_FR wr t0 t ∧ ai_E t ∧ ∃ q ∈ outs, (∀ ρ, ai_ro ρ q.1 v) ∧ ai_HO q.2 t
/-- a state lies in a cut -/
noncomputable def ai_Ks (G : ai_G) (wr : ai_W) (t0 : en_H) (c : ai_K) (cl : en_L) (cst : List en_V) (t : en_H) : Prop := (∀ q ∈ c.2.1, ∃ v, en_ld cl q.1 = some v ∧ ∀ ρ, ai_rv ρ q.2 v) ∧ (∀ ρ, ai_rvs ρ c.2.2.1 cst) ∧ ai_Hp G wr t0 c.2.2.2.1 t
theorem ai_at_ok {ρ : Nat → Nat} {A : ai_S} {c : ai_K} {cl : en_L} {cst : List en_V} {t : en_H} (h : ai_at G A c = true) (hS : ai_St G wr ρ t0 A cl cst t) : ai_Ks G wr t0 c cl cst t := by
  unfold ai_at at h
  cases c1 : ai_all (fun q => match ai_ld A.2.1 q.1 with | some a => bif ai_vle a q.2 then ai_nt q.2 else false | none => false) c.2.1 with
  | false => rw [c1] at h; cases h
  | true =>
    rw [c1] at h
    dsimp only [cond] at h
    cases c2 : ai_vsle A.2.2.1 c.2.2.1 with
    | false => rw [c2] at h; cases h
    | true =>
      rw [c2] at h
      dsimp only [cond] at h
      cases c3 : ai_all ai_nt c.2.2.1 with
      | false => rw [c3] at h; cases h
      | true =>
        rw [c3] at h
        dsimp only [cond] at h
        obtain ⟨hl, hs, hG, hO, hF⟩ := hS
        refine ⟨fun q hq => ?_, fun ρ' => ai_nts_ok c3 (ai_vsle_ok c2 hs), hG, fun p hp => ai_ent_ok (ai_all_ok h p hp) hG hO, hF⟩
        have h1 := ai_all_ok c1 q hq
        split at h1
        · rename_i a ha
          cases c4 : ai_vle a q.2 with
          | false => rw [c4] at h1; cases h1
          | true =>
            rw [c4] at h1
            obtain ⟨v, g1, g2⟩ := hl _ _ ha
            exact ⟨v, g1, fun ρ' => ai_nt_ok h1 (ai_vle_ok c4 g2)⟩
        · cases h1
theorem ai_reo_ok {ρ : Nat → Nat} {R o : Option ai_v × ai_O} {v : Option en_V} {t : en_H} (h : ai_reo G R o = true) (hv : ai_ro ρ R.1 v) (hG : ai_HG G t) (hO : ai_HO R.2 t) : (∀ ρ', ai_ro ρ' o.1 v) ∧ ai_HO o.2 t := by
  obtain ⟨r1, r2⟩ := R
  obtain ⟨o1, o2⟩ := o
  unfold ai_reo at h
  cases c1 : (match r1, o1 with
    | none, none => true
    | some a, some b => bif ai_vle a b then ai_nt b else false
    | _, _ => false) with
  | false => rw [c1] at h; cases h
  | true =>
    rw [c1] at h
    refine ⟨fun ρ' => ?_, fun p hp => ai_ent_ok (ai_all_ok h p hp) hG hO⟩
    cases r1 with
    | none =>
      cases o1 with
      | none =>
        cases v with
        | none => exact trivial
        | some w => exact absurd hv (by simp [ai_ro])
      | some b => cases c1
    | some a =>
      cases o1 with
      | none => cases c1
      | some b =>
        cases v with
        | none => exact absurd hv (by simp [ai_ro])
        | some w =>
          have c1 : (bif ai_vle a b then ai_nt b else false) = true := c1
          cases c2 : ai_vle a b with
          | false => rw [c2] at c1; cases c1
          | true =>
            rw [c2] at c1
            exact ai_nt_ok c1 (ai_vle_ok c2 hv)
theorem ai_go_ok {ρ : Nat → Nat} (hρ : ∀ i, ρ i < 4294967296) (hcs : ∀ mi c, c ∈ cs mi → ai_cok G f mi c) {rk : List (Nat × Nat)}
    (ih : ∀ c ∈ cuts, ∀ (cl : en_L) (cst : List en_V) (t : en_H), ai_Ks G wr t0 c cl cst t → ai_rkv (ai_rho cl) c.2.2.2.2 < ai_rkv ρ rk → en_ex none f code (fun _ => false) (c.1, cl, cst, t, n, 0) (ai_P G wr t0 n outs)) :
    ∀ (fuel : Nat) (A : ai_S) (cl : en_L) (cst : List en_V) (t : en_H), ai_go G cs wr code dr cuts outs rk fuel A = true → ai_St G wr ρ t0 A cl cst t → en_ex none f code (fun _ => false) (A.1, cl, cst, t, n, 0) (ai_P G wr t0 n outs)
  | 0, A, cl, cst, t, h, _ => by cases h
  | fuel + 1, A, cl, cst, t, h, hS => by
    have h : (match code A.1 with
      | some e => ai_all (fun A1 => match ai_step G cs wr A1.1 e A1.2.1 A1.2.2.1 A1.2.2.2 with
        | some (.inl As) => ai_all (fun A2 => bif ai_nil (ai_csat cuts A2.1) then ai_go G cs wr code dr cuts outs rk fuel A2 else ai_any (fun c => bif ai_at G A2 c then (bif Nat.beq (en_len rk) (en_len c.2.2.2.2) then ai_rkd A2.2.1 rk c.2.2.2.2 else false) else false) (ai_csat cuts A2.1)) As
        | some (.inr R) => ai_any (ai_reo G R) outs
        | none => false) (ai_sps G (dr A.1) A)
      | none => false) = true := h
    cases hc : code A.1 with
    | none => rw [hc] at h; cases h
    | some e =>
      rw [hc] at h
      dsimp only at h
      obtain ⟨A1, a1, a2, hS1⟩ := ai_sps_ok (qs := dr A.1) hS
      have h := ai_all_ok h A1 a1
      obtain ⟨ins, nx, x1, x2⟩ := e
      split at h
      · rename_i As hst
        obtain ⟨pc', cl', cst', t', hk, A2, b1, b2, hS2⟩ := ai_step_ok (n := n) (sl := 0) hcs hst hS1.1 hS1.2.1 hS1.2.2
        have h := ai_all_ok h A2 b1
        rw [a2] at hk
        refine ex_go (S := (pc', cl', cst', t', n, 0)) hc hk rfl ?_
        rw [← b2]
        cases d1 : ai_nil (ai_csat cuts A2.1) with
        | true =>
          rw [d1] at h
          exact ai_go_ok hρ hcs ih fuel A2 cl' cst' t' h hS2
        | false =>
          rw [d1] at h
          obtain ⟨c, k1, k2⟩ := ai_any_ok h
          unfold ai_csat at k1
          rw [en_flt_eq, List.mem_filter] at k1
          have k3 := Nat.eq_of_beq_eq_true k1.2
          cases d2 : ai_at G A2 c with
          | false => rw [d2] at k2; cases k2
          | true =>
            rw [d2] at k2
            dsimp only [cond] at k2
            cases d3 : Nat.beq (en_len rk) (en_len c.2.2.2.2) with
            | false => rw [d3] at k2; cases k2
            | true =>
              rw [d3] at k2
              have d3 := Nat.eq_of_beq_eq_true d3
              rw [en_len_eq, en_len_eq] at d3
              rw [← k3]
              exact ih c k1.1 cl' cst' t' (ai_at_ok d2 hS2) (ai_rkd_ok hS2.1 hρ d3 k2)
      · rename_i R hst
        obtain ⟨v, hk, hv, hH⟩ := ai_step_ok (n := n) (sl := 0) hcs hst hS1.1 hS1.2.1 hS1.2.2
        rw [a2] at hk
        obtain ⟨o, o1, o2⟩ := ai_any_ok h
        obtain ⟨r1, r2⟩ := ai_reo_ok o2 hv hH.1 hH.2.1
        exact ex_ret (r := (v, t, n, 0)) hc hk ⟨v, t, rfl, hH.1, hH.2.2.1, hH.2.2.2, o, o1, r1, r2⟩
      · cases h
/-- the locals of a cut, as its rank counts them -/
noncomputable def ai_tag (rk : List (Nat × Nat)) (ls : ai_L) : ai_L := List.rec (motive := fun _ => ai_L) ls (fun e _ ih => match e.1 with
  | 0 => ih
  | _ => (match ai_ld ls e.2 with
    | some (.inl q) => (e.2, .inl (q.1, q.2.1, some (e.2, 8589934592))) :: ih
    | _ => ih)) rk
theorem ai_tag_ok {cl : en_L} {ls : ai_L} (h : ai_lr (ai_rho cl) ls cl) : ∀ rk : List (Nat × Nat), ai_lr (ai_rho cl) (ai_tag rk ls) cl
  | [] => h
  | e :: rk => by
    have ih := ai_tag_ok h rk
    show ai_lr (ai_rho cl) (match e.1 with
      | 0 => ai_tag rk ls
      | _ => (match ai_ld ls e.2 with
        | some (.inl q) => (e.2, .inl (q.1, q.2.1, some (e.2, 8589934592))) :: ai_tag rk ls
        | _ => ai_tag rk ls)) cl
    split
    · exact ih
    · split
      · rename_i q hq
        obtain ⟨v, g1, m, rfl, g2, g3, g4, -⟩ := h _ _ hq
        refine ai_lr_cons ih g1 ⟨m, rfl, g2, g3, g4, ?_⟩
        show ai_off m + 8589934592 = ai_rho cl e.2 + 8589934592
        unfold ai_rho
        rw [g1]
      · exact ih
/-- a contract, checked -/
noncomputable def ai_chk (G : ai_G) (cs : Nat → List ai_C) (code : Nat → Option en_I) (ml : Nat) (dr : Nat → List ai_sp) (cuts : List ai_K) (rk : List (Nat × Nat)) (fuel : Nat) (c : ai_C) : Bool :=
  bif Nat.ble (ai_sum c.2.1) ml then (bif ai_all ai_nt c.2.1 then (bif ai_go G cs c.2.2.2.1 code dr cuts c.2.2.2.2 rk fuel (0, ai_args c.2.1 0, [], c.2.2.1) then ai_all (fun k => ai_go G cs c.2.2.2.1 code dr cuts c.2.2.2.2 k.2.2.2.2 fuel (k.1, ai_tag k.2.2.2.2 k.2.1, k.2.2.1, k.2.2.2.1)) cuts else false) else false) else false
theorem ai_chk_ok {c : ai_C} {d ml fuel : Nat} {rk : List (Nat × Nat)} (hml : ml = en_ml c.1) (h : ai_chk G cs (en_code c.1) ml dr cuts rk fuel c = true) (hcs : ∀ mi c, c ∈ cs mi → ai_cok G (en_u d) mi c) : ai_cok G (en_u (d + 1)) c.1 c := by
  unfold ai_chk at h
  cases c1 : Nat.ble (ai_sum c.2.1) ml with
  | false => rw [c1] at h; cases h
  | true =>
    rw [c1] at h
    dsimp only [cond] at h
    cases c2 : ai_all ai_nt c.2.1 with
    | false => rw [c2] at h; cases h
    | true =>
      rw [c2] at h
      dsimp only [cond] at h
      cases c3 : ai_go G cs c.2.2.2.1 (en_code c.1) dr cuts c.2.2.2.2 rk fuel (0, ai_args c.2.1 0, [], c.2.2.1) with
      | false => rw [c3] at h; cases h
      | true =>
        rw [c3] at h
        dsimp only [cond] at h
        intro ρ as t n hs hG hO hEt
        have hs : ai_rvs (fun _ => 0) c.2.1 as := ai_nts_ok c2 hs
        have hcut : ∀ (N : Nat) (k : ai_K), k ∈ cuts → ∀ (cl : en_L) (cst : List en_V) (t' : en_H), ai_rkv (ai_rho cl) k.2.2.2.2 = N → ai_Ks G c.2.2.2.1 t k cl cst t' → en_ex none (en_u d) (en_code c.1) (fun _ => false) (k.1, cl, cst, t', n, 0) (ai_P G c.2.2.2.1 t n c.2.2.2.2) := by
          intro N
          induction N using Nat.strongRecOn with
          | _ N ih =>
            intro k hk cl cst t' hN hK
            have h1 := ai_all_ok h k hk
            have hl : ai_lr (ai_rho cl) k.2.1 cl := by
              intro i a ha
              have hm : ∀ {l : ai_L}, ai_ld l i = some a → ∃ q ∈ l, q.1 = i ∧ q.2 = a := by
                intro l
                induction l with
                | nil => intro h; cases h
                | cons q l ih9 =>
                  intro h
                  have h : (bif Nat.beq q.1 i then some q.2 else ai_ld l i) = some a := h
                  cases hb : Nat.beq q.1 i with
                  | true =>
                    rw [hb] at h
                    exact ⟨q, List.mem_cons_self, Nat.eq_of_beq_eq_true hb, Option.some.inj h⟩
                  | false =>
                    rw [hb] at h
                    obtain ⟨p, p1, p2⟩ := ih9 h
                    exact ⟨p, List.mem_cons_of_mem _ p1, p2⟩
              obtain ⟨q, q1, q2, q3⟩ := hm ha
              obtain ⟨v, v1, v2⟩ := hK.1 q q1
              rw [q2] at v1
              rw [q3] at v2
              exact ⟨v, v1, v2 _⟩
            exact ai_go_ok (dr := dr) (cuts := cuts) (rk := k.2.2.2.2) (ai_rho_lt cl) hcs (fun c' hc' cl' cst' t'' hK' hlt => ih _ (by rw [← hN]; exact hlt) c' hc' cl' cst' t'' rfl hK') fuel (k.1, ai_tag k.2.2.2.2 k.2.1, k.2.2.1, k.2.2.2.1) cl cst t' h1 ⟨ai_tag_ok hl _, hK.2.1 _, hK.2.2⟩
        have hx := ai_go_ok (dr := dr) (cuts := cuts) (rk := rk) (ρ := fun _ => 0) (n := n) (fun _ => by decide) hcs (fun c' hc' cl' cst' t'' hK' _ => hcut _ c' hc' cl' cst' t'' rfl hK') fuel (0, ai_args c.2.1 0, [], c.2.2.1) (en_args as 0) [] t c3 ⟨ai_rls_lr (ai_args_ok 0 hs), trivial, hG, hO, ai_FR.rf _ _, hEt⟩
        obtain ⟨r, r1, r2⟩ := en_u_ex (P := fun r => r.2.2.1 = n ∧ r.2.2.2 = 0 ∧ ai_HG G r.2.1 ∧ ai_FR c.2.2.2.1 t r.2.1 ∧ ai_E r.2.1 ∧ ∃ q ∈ c.2.2.2.2, (∀ ρ, ai_ro ρ q.1 r.1) ∧ ai_HO q.2 r.2.1) (by rw [ai_sum_ok hs, ← hml]; exact c1) (ex_imp (fun o ho => by
          obtain ⟨v, t', rfl, h1, h2, h3⟩ := ho
          exact ⟨_, rfl, rfl, rfl, h1, h2, h3⟩) hx)
        obtain ⟨s1, s2, s3, s4, s8, q, s5, s6, s7⟩ := r2
        exact ⟨r, r1, s1, s2, s3, s4, s8, q, s5, s6 ρ, s7⟩
end AI11
