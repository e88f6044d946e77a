section ENO
/-- from the state S the engine comes to an end of which P holds -/
noncomputable def en_ex (oc : Option (List en_V)) (f : en_F) (code : Nat → Option en_I) (stop : Nat → Bool) (S : en_S) (P : en_O → Prop) : Prop := ∃ (fuel : Nat) (o : en_O), en_run en_df oc f code stop fuel S.1 S.2.1 S.2.2.1 S.2.2.2.1 S.2.2.2.2.1 S.2.2.2.2.2 = some o ∧ P o
variable {oc : Option (List en_V)} {f : en_F} {code : Nat → Option en_I} {stop : Nat → Bool} {P : en_O → Prop}
variable {pc nx : Nat} {ls : en_L} {st : List en_V} {t : en_H} {n sl : Nat}
theorem ex_imp {S : en_S} {P' : en_O → Prop} (hP : ∀ o, P o → P' o) (h : en_ex oc f code stop S P) : en_ex oc f code stop S P' := by
  obtain ⟨fuel, o, h2, h3⟩ := h
  exact ⟨fuel, o, h2, hP o h3⟩
theorem ex_go {e : en_I} {S : en_S} (hc : code pc = some e) (hs : ∀ k : en_K, en_step en_df oc f pc e ls st t n sl k = k S.1 S.2.1 S.2.2.1 S.2.2.2.1 S.2.2.2.2.1 S.2.2.2.2.2) (hp : stop S.1 = false) (h : en_ex oc f code stop S P) : en_ex oc f code stop (pc, ls, st, t, n, sl) P := by
  obtain ⟨fuel, o, h2, h3⟩ := h
  refine ⟨fuel + 1, o, ?_, h3⟩
  show (match code pc with
    | some e => en_step en_df oc f pc e ls st t n sl (fun pc' ls' st' t' n' sl' => bif stop pc' then some (.inr (pc', ls', st', t', n', sl')) else en_run en_df oc f code stop fuel pc' ls' st' t' n' sl')
    | none => none) = some o
  rw [hc]
  show en_step en_df oc f pc e ls st t n sl _ = some o
  rw [hs]
  show (bif stop S.1 then _ else _) = some o
  rw [hp]
  exact h2
theorem ex_stop {e : en_I} {S : en_S} (hc : code pc = some e) (hs : ∀ k : en_K, en_step en_df oc f pc e ls st t n sl k = k S.1 S.2.1 S.2.2.1 S.2.2.2.1 S.2.2.2.2.1 S.2.2.2.2.2) (hp : stop S.1 = true) (h : P (.inr S)) : en_ex oc f code stop (pc, ls, st, t, n, sl) P := by
  refine ⟨1, .inr S, ?_, h⟩
  show (match code pc with
    | some e => en_step en_df oc f pc e ls st t n sl (fun pc' ls' st' t' n' sl' => bif stop pc' then some (.inr (pc', ls', st', t', n', sl')) else en_run en_df oc f code stop 0 pc' ls' st' t' n' sl')
    | none => none) = _
  rw [hc]
  show en_step en_df oc f pc e ls st t n sl _ = _
  rw [hs]
  show (bif stop S.1 then _ else _) = _
  rw [hp]
  rfl
theorem ex_ret {e : en_I} {r : en_R} (hc : code pc = some e) (hs : ∀ k : en_K, en_step en_df oc f pc e ls st t n sl k = some (.inl r)) (h : P (.inl r)) : en_ex oc f code stop (pc, ls, st, t, n, sl) P := by
  refine ⟨1, .inl r, ?_, h⟩
  show (match code pc with
    | some e => en_step en_df oc f pc e ls st t n sl (fun pc' ls' st' t' n' sl' => bif stop pc' then some (.inr (pc', ls', st', t', n', sl')) else en_run en_df oc f code stop 0 pc' ls' st' t' n' sl')
    | none => none) = _
  rw [hc]
  exact hs _
noncomputable def en_hf (l : Launch) (ba : Nat) (ex : Nat → Nat) (cA : Nat → ClassId) (D : va_G) (d : Nat) (f : en_F) : Prop := ∀ (mi : Nat) (as : List en_V) (t : en_H) (n : Nat) (r : en_R) (q9 : en_M), f mi as t n = some r → en_nth en_inf mi = some q9 → en_Met l ba ex cA D d q9 as t n r
end ENO
