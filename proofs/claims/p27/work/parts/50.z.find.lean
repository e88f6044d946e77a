section ACF
/-! cuts found by place and by a local's value: a long list of cuts is never walked -/
noncomputable abbrev fq_gr : Type := Nat × Nat × Nat × List (List ai_K)
noncomputable def fq_row (l : List (List ai_K)) (i : Nat) : List ai_K := match en_nth l i with
  | some r => r
  | none => []
noncomputable def fq_key (A : ai_S) (g : fq_gr) : List ai_K := match ai_ld A.2.1 g.2.1 with
  | some (.inl q) => fq_row g.2.2.2 (q.1 - g.2.2.1)
  | _ => fq_row g.2.2.2 0
noncomputable def fq_sel (gs : List fq_gr) (A : ai_S) : Option (List ai_K) := List.rec (motive := fun _ => Option (List ai_K)) none (fun g _ ih => bif Nat.beq g.1 A.1 then some (fq_key A g) else ih) gs
noncomputable def fq_flat (gs : List fq_gr) : List ai_K := gs.flatMap (fun g => g.2.2.2.flatten)
noncomputable def fq_gok (gs : List fq_gr) : Bool := ai_all (fun g => ai_all (fun r => ai_all (fun c => Nat.beq c.1 g.1) r) g.2.2.2) gs
noncomputable def fq_gof (G : ai_G) (cs : Nat → List ai_C) (wr : ai_W) (code : Nat → Option en_I) (dr : Nat → List ai_sp) (gs : List fq_gr) (outs : List (Option ai_v × ai_O)) (rk : List (Nat × Nat)) (fuel : Nat) : ai_S → Bool := Nat.rec (motive := fun _ => ai_S → Bool) (fun _ => false) (fun _ ih A => match code A.1 with
  | some e => ai_all (fun A1 => match ai_step G cs wr A1.1 e A1.2.1 A1.2.2.1 A1.2.2.2 with
    | some (.inl As) => ai_all (fun A2 => match fq_sel gs A2 with
      | none => ih A2
      | some l => ai_any (fun c => bif ai_at G A2 c then (bif Nat.beq (en_len rk) (en_len c.2.2.2.2) then ai_rkd A2.2.1 rk c.2.2.2.2 else false) else false) l) As
    | some (.inr R) => ai_any (ai_reo G R) outs
    | none => false) (ai_sps G (dr A.1) A)
  | none => false) fuel
theorem fq_all_mk {α : Type} {p : α → Bool} {l : List α} (h : ∀ a, a ∈ l → p a = true) : ai_all p l = true := by
  induction l with
  | nil => rfl
  | cons x l ih =>
    show (bif p x then ai_all p l else false) = true
    rw [h x List.mem_cons_self]
    exact ih (fun a ha => h a (List.mem_cons_of_mem _ ha))
theorem fq_any_mk {α : Type} {p : α → Bool} {l : List α} {a : α} (h : a ∈ l) (hp : p a = true) : ai_any p l = true := by
  induction l with
  | nil => cases h
  | cons x l ih =>
    show (bif p x then true else ai_any p l) = true
    cases c : p x with
    | true => rfl
    | false =>
      rcases List.mem_cons.mp h with rfl | h
      · rw [hp] at c; cases c
      · exact ih h
theorem fq_all_imp {α : Type} {p q : α → Bool} {l : List α} (h : ∀ a, a ∈ l → p a = true → q a = true) (hp : ai_all p l = true) : ai_all q l = true :=
  fq_all_mk (fun a ha => h a ha (ai_all_ok hp a ha))
theorem fq_flat_mem {gs : List fq_gr} {c : ai_K} : c ∈ fq_flat gs ↔ ∃ g ∈ gs, ∃ r ∈ g.2.2.2, c ∈ r := by
  unfold fq_flat
  rw [List.mem_flatMap]
  simp only [List.mem_flatten]
theorem fq_gok_at {gs : List fq_gr} (hg : fq_gok gs = true) {g : fq_gr} (h1 : g ∈ gs) {r : List ai_K} (h2 : r ∈ g.2.2.2) {c : ai_K} (h3 : c ∈ r) : c.1 = g.1 :=
  Nat.eq_of_beq_eq_true (ai_all_ok (ai_all_ok (ai_all_ok hg g h1) r h2) c h3)
theorem fq_row_mem {l : List (List ai_K)} {i : Nat} {c : ai_K} (h : c ∈ fq_row l i) : ∃ r ∈ l, c ∈ r := by
  unfold fq_row at h
  cases hn : en_nth l i with
  | none => rw [hn] at h; cases h
  | some r =>
    rw [hn] at h
    rw [en_nth_eq] at hn
    exact ⟨r, List.mem_of_getElem? hn, h⟩
theorem fq_key_mem {A : ai_S} {g : fq_gr} {c : ai_K} (h : c ∈ fq_key A g) : ∃ r ∈ g.2.2.2, c ∈ r := by
  unfold fq_key at h
  split at h
  · exact fq_row_mem h
  · exact fq_row_mem h
theorem fq_sel_none {gs : List fq_gr} {A : ai_S} (h : fq_sel gs A = none) : ∀ g ∈ gs, ¬ g.1 = A.1 := by
  induction gs with
  | nil => intro g hg; cases hg
  | cons x gs ih =>
    have h : (bif Nat.beq x.1 A.1 then some (fq_key A x) else fq_sel gs A) = none := h
    cases c : Nat.beq x.1 A.1 with
    | true => rw [c] at h; cases h
    | false =>
      rw [c] at h
      intro g hg
      rcases List.mem_cons.mp hg with rfl | hg
      · intro z
        rw [z, Nat.beq_refl] at c
        cases c
      · exact ih h g hg
theorem fq_sel_some {gs : List fq_gr} {A : ai_S} {l : List ai_K} (h : fq_sel gs A = some l) : ∃ g ∈ gs, g.1 = A.1 ∧ l = fq_key A g := by
  induction gs with
  | nil => cases h
  | cons x gs ih =>
    have h : (bif Nat.beq x.1 A.1 then some (fq_key A x) else fq_sel gs A) = some l := h
    cases c : Nat.beq x.1 A.1 with
    | true =>
      rw [c] at h
      exact ⟨x, List.mem_cons_self, Nat.eq_of_beq_eq_true c, (Option.some.inj h).symm⟩
    | false =>
      rw [c] at h
      obtain ⟨g, g1, g2⟩ := ih h
      exact ⟨g, List.mem_cons_of_mem _ g1, g2⟩
theorem fq_gof_ok {G : ai_G} {cs : Nat → List ai_C} {wr : ai_W} {code : Nat → Option en_I} {dr : Nat → List ai_sp} {gs : List fq_gr} {outs : List (Option ai_v × ai_O)} {rk : List (Nat × Nat)} (hg : fq_gok gs = true) : ∀ (fuel : Nat) (A : ai_S), fq_gof G cs wr code dr gs outs rk fuel A = true → ai_go G cs wr code dr (fq_flat gs) outs rk fuel A = true
  | 0, A, h => by cases h
  | fuel + 1, A, h => by
    have h : (match code A.1 with
      | some e => ai_all (fun A1 => match ai_step G cs wr A1.1 e A1.2.1 A1.2.2.1 A1.2.2.2 with
        | some (.inl As) => ai_all (fun A2 => match fq_sel gs A2 with
          | none => fq_gof G cs wr code dr gs outs rk fuel A2
          | some l => ai_any (fun c => bif ai_at G A2 c then (bif Nat.beq (en_len rk) (en_len c.2.2.2.2) then ai_rkd A2.2.1 rk c.2.2.2.2 else false) else false) l) As
        | some (.inr R) => ai_any (ai_reo G R) outs
        | none => false) (ai_sps G (dr A.1) A)
      | none => false) = true := h
    show (match code A.1 with
      | some e => ai_all (fun A1 => match ai_step G cs wr A1.1 e A1.2.1 A1.2.2.1 A1.2.2.2 with
        | some (.inl As) => ai_all (fun A2 => bif ai_nil (ai_csat (fq_flat gs) A2.1) then ai_go G cs wr code dr (fq_flat gs) outs rk fuel A2 else ai_any (fun c => bif ai_at G A2 c then (bif Nat.beq (en_len rk) (en_len c.2.2.2.2) then ai_rkd A2.2.1 rk c.2.2.2.2 else false) else false) (ai_csat (fq_flat gs) A2.1)) As
        | some (.inr R) => ai_any (ai_reo G R) outs
        | none => false) (ai_sps G (dr A.1) A)
      | none => false) = true
    cases hc : code A.1 with
    | none => rw [hc] at h; cases h
    | some e =>
      rw [hc] at h
      refine fq_all_imp (fun A1 _ h1 => ?_) h
      generalize ai_step G cs wr A1.1 e A1.2.1 A1.2.2.1 A1.2.2.2 = r at h1 ⊢
      cases r with
      | none => cases h1
      | some s =>
        cases s with
        | inr R => exact h1
        | inl As =>
          refine fq_all_imp (fun A2 _ h2 => ?_) h1
          have h2 : (match fq_sel gs A2 with
            | none => fq_gof G cs wr code dr gs outs rk fuel A2
            | some l => ai_any (fun c => bif ai_at G A2 c then (bif Nat.beq (en_len rk) (en_len c.2.2.2.2) then ai_rkd A2.2.1 rk c.2.2.2.2 else false) else false) l) = true := h2
          show (bif ai_nil (ai_csat (fq_flat gs) A2.1) then ai_go G cs wr code dr (fq_flat gs) outs rk fuel A2 else ai_any (fun c => bif ai_at G A2 c then (bif Nat.beq (en_len rk) (en_len c.2.2.2.2) then ai_rkd A2.2.1 rk c.2.2.2.2 else false) else false) (ai_csat (fq_flat gs) A2.1)) = true
          cases hf : fq_sel gs A2 with
          | none =>
            rw [hf] at h2
            have hn : ai_csat (fq_flat gs) A2.1 = [] := by
              unfold ai_csat
              rw [en_flt_eq, List.filter_eq_nil_iff]
              intro c hcm hb
              obtain ⟨g, g1, r, g2, g3⟩ := fq_flat_mem.mp hcm
              exact fq_sel_none hf g g1 ((fq_gok_at hg g1 g2 g3).symm.trans (Nat.eq_of_beq_eq_true hb))
            rw [hn]
            exact fq_gof_ok hg fuel A2 h2
          | some l =>
            rw [hf] at h2
            obtain ⟨c, c1, c2⟩ := ai_any_ok h2
            obtain ⟨g, g1, g2, rfl⟩ := fq_sel_some hf
            obtain ⟨r, r1, r2⟩ := fq_key_mem c1
            have hm : c ∈ ai_csat (fq_flat gs) A2.1 := by
              unfold ai_csat
              rw [en_flt_eq, List.mem_filter]
              refine ⟨fq_flat_mem.mpr ⟨g, g1, r, r1, r2⟩, ?_⟩
              rw [fq_gok_at hg g1 r1 r2, g2]
              exact Nat.beq_refl _
            cases hn : ai_csat (fq_flat gs) A2.1 with
            | nil => rw [hn] at hm; cases hm
            | cons y ys =>
              rw [← hn]
              have hz : ai_nil (ai_csat (fq_flat gs) A2.1) = false := by rw [hn]; rfl
              rw [hz]
              exact fq_any_mk hm c2
noncomputable def fq_ce (G : ai_G) (tab : Nat → List ai_cert) (gs : List fq_gr) (mi : Nat) (q : ai_cert) : Bool := Nat.beq q.2.1.1 mi && (Nat.ble (ai_sum q.2.1.2.1) (en_ml q.2.1.1) && (ai_all ai_nt q.2.1.2.1 && fq_gof G (ai_csl tab q.1) q.2.1.2.2.2.1 (en_code q.2.1.1) (ai_drl q.2.2.1) gs q.2.1.2.2.2.2 q.2.2.2.2 3000 (0, ai_args q.2.1.2.1 0, [], q.2.1.2.2.1)))
noncomputable def fq_cc (G : ai_G) (tab : Nat → List ai_cert) (gs : List fq_gr) (q : ai_cert) (k : ai_K) : Bool := fq_gof G (ai_csl tab q.1) q.2.1.2.2.2.1 (en_code q.2.1.1) (ai_drl q.2.2.1) gs q.2.1.2.2.2.2 k.2.2.2.2 3000 (k.1, ai_tag k.2.2.2.2 k.2.1, k.2.2.1, k.2.2.2.1)
theorem fq_ck {G : ai_G} {tab : Nat → List ai_cert} {gs : List fq_gr} {mi : Nat} {q : ai_cert} (hg : fq_gok gs = true) (hq : q.2.2.2.1 = fq_flat gs) (h1 : fq_ce G tab gs mi q = true) (h2 : ai_all (fun g => ai_all (fun r => ai_all (fq_cc G tab gs q) r) g.2.2.2) gs = true) : ai_ck G tab mi q = true := by
  refine ai_ck_of ?_ ?_
  · unfold fq_ce at h1
    rw [Bool.and_eq_true, Bool.and_eq_true, Bool.and_eq_true] at h1
    unfold ai_ce
    rw [h1.1, h1.2.1, h1.2.2.1, hq, fq_gof_ok hg _ _ h1.2.2.2]
    rfl
  · rw [hq]
    refine fq_all_mk (fun c hc => ?_)
    obtain ⟨g, g1, r, g2, g3⟩ := fq_flat_mem.mp hc
    have h := ai_all_ok (ai_all_ok (ai_all_ok h2 g g1) r g2) c g3
    unfold fq_cc at h
    unfold ai_cc
    rw [hq]
    exact fq_gof_ok hg _ _ h
end ACF
