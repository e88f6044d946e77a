section HA1
/-! ### what the hand needs of the reference's heap -/
theorem ha_rc {c : Nat} {v : en_V} (h : ai_rc (c + 100) v) : v = .inr (.inr (.inl (some c))) := by
  rcases h with ⟨e, -⟩ | ⟨e, -⟩ | ⟨j, e, hj, -⟩ | ⟨k, e, rfl⟩ | ⟨s, k, e, hs, -⟩
  · omega
  · omega
  · omega
  · rw [show k = c by omega]
  · omega
theorem ha_int {x m : Nat} {ρ : Nat → Nat} {v : en_V} (hx : x < 2147483648) (h : ai_rv ρ (.inl (x + 2147483648, x + 2147483648, none)) v) : v = .inl x := by
  obtain ⟨m, rfl, h1, h2, h3, -⟩ := h
  unfold ai_off at h2 h3
  dsimp only at h2 h3
  rw [show m = x by omega]
theorem ha_fld {t : en_H} {i c : Nat} (hG : ai_HG ah_G t) (hi : i < 41) (hr : ai_run ah_383.2.2.2 i = some (.inr (.inr [c + 100]))) : ∃ vs, en_get t 383 = some (.inr (10, vs)) ∧ en_nth vs i = some (.inr (.inr (.inl (some c)))) := by
  obtain ⟨vs, h1, h2, h3⟩ := hG 383 ah_383 rfl
  have h2 : vs.length = 41 := h2
  refine ⟨vs, h1, ?_⟩
  rw [en_nth_eq]
  obtain ⟨v, hv⟩ : ∃ v, vs[i]? = some v := ⟨vs[i]'(by first | decide | omega), List.getElem?_eq_getElem (by first | decide | omega)⟩
  obtain ⟨h, k1, k2⟩ := h3 i v hv
  rw [hr] at k1
  cases k1
  obtain ⟨c', k3, k4⟩ := k2
  rcases List.mem_cons.mp k3 with rfl | k3
  · rw [hv, ha_rc k4]
  · cases k3
noncomputable def ha_all (p : Nat → Bool) (m : Nat) : Bool := Nat.rec (motive := fun _ => Bool) true (fun k ih => bif p k then ih else false) m
theorem ha_all_ok {p : Nat → Bool} : ∀ {m : Nat}, ha_all p m = true → ∀ k, k < m → p k = true
  | 0, _, k, hk => by omega
  | m + 1, h, k, hk => by
    have h : (bif p m then ha_all p m else false) = true := h
    cases c : p m with
    | false => rw [c] at h; cases h
    | true =>
      rw [c] at h
      by_cases e : k = m
      · rw [e]; exact c
      · exact ha_all_ok h k (by first | decide | omega)
noncomputable def ha_ints (k : Nat) : Bool := match ai_run ah_399.2.2.2 k with
  | some (.inl _) => true
  | _ => false
set_option maxRecDepth 1000000 in
theorem ha_ints_ok : ha_all ha_ints 1035 = true := by decide +kernel
theorem ha_st {t : en_H} (hG : ai_HG ah_G t) : ∃ vs, en_get t 399 = some (ai_mk ah_399 vs) ∧ vs.length = 1035 ∧ ∀ i, i < 1035 → ∃ m p, vs[i]? = some (.inl m) ∧ m < 4294967296 ∧ ai_run ah_399.2.2.2 i = some (.inl p) ∧ p.1 ≤ ai_off m ∧ ai_off m ≤ p.2 := by
  obtain ⟨vs, h1, h2, h3⟩ := hG 399 ah_399 rfl
  have h2 : vs.length = 1035 := h2
  refine ⟨vs, h1, h2, fun i hi => ?_⟩
  obtain ⟨v, hv⟩ : ∃ v, vs[i]? = some v := ⟨vs[i]'(by first | decide | omega), List.getElem?_eq_getElem (by first | decide | omega)⟩
  obtain ⟨h, k1, k2⟩ := h3 i v hv
  have k3 := ha_all_ok ha_ints_ok i hi
  unfold ha_ints at k3
  rw [k1] at k3
  match h, k2, k3, k1 with
  | .inl p, ⟨m, e, m1, m2, m3⟩, _, k1 => exact ⟨m, p, by rw [hv, e], m1, k1, m2, m3⟩
variable {oc : Option (List en_V)} {f : en_F} {code : Nat → Option en_I} {stop : Nat → Bool} {P : en_O → Prop}
variable {pc nx : Nat} {ls : en_L} {st : List en_V} {t : en_H} {n sl : Nat}
theorem ex_aps {ins : Instr} {x1 x2 a i d : Nat} {q : Nat × List en_V} {v : en_V} (hc : code pc = some (ins, nx, x1, x2)) (hi : ∀ k : en_K, en_step en_df oc f pc (ins, nx, x1, x2) ls (v :: .inl i :: .inr (.inr (.inl (some a))) :: st) t n sl k = en_aput d nx ls (v :: .inl i :: .inr (.inr (.inl (some a))) :: st) t n sl k) (hg : en_get t a = some (.inl q)) (hx : (en_afit t d q.1 v && (Nat.blt i 2147483648 && Nat.blt i (en_len q.2))) = true) (hp : stop nx = false) (h : en_ex oc f code stop (nx, ls, st, en_set t a (.inl (q.1, en_upd q.2 i v)), n, sl) P) : en_ex oc f code stop (pc, ls, v :: .inl i :: .inr (.inr (.inl (some a))) :: st, t, n, sl) P := by
  refine ex_go (S := (nx, ls, st, en_set t a (.inl (q.1, en_upd q.2 i v)), n, sl)) hc (fun k => ?_) hp h
  rw [hi]
  show (match en_get t a with
    | some (.inl q) => bif en_afit t d q.1 v && (Nat.blt i 2147483648 && Nat.blt i (en_len q.2)) then k nx ls st (en_set t a (.inl (q.1, en_upd q.2 i v))) n sl else none
    | _ => none) = _
  rw [hg]
  dsimp only
  rw [hx]
  rfl
end HA1
section HA2
/-! ### copies -/
noncomputable def cp_fit (f t : Nat) (k : Nat) : Bool := match ai_run ah_399.2.2.2 (f + k) with
  | some a => (match ai_run ah_399.2.2.2 (t + k) with
    | some b => ai_hle a b
    | none => false)
  | none => false
noncomputable def cp_ct (f t m : Nat) : ai_C := (123, [.inr (.inr 483), .inl (f + 2147483648, f + 2147483648, none), .inl (t + 2147483648, t + 2147483648, none), .inl (m + 2147483648, m + 2147483648, none)], [], [(399, 0, 1034)], [(none, [])])
noncomputable def cp_L (f t m k : Nat) : en_L := [(4, .inl k), (0, .inr (.inr (.inl (some 383)))), (1, .inl f), (2, .inl t), (3, .inl m)]
theorem cp_loop {fn : en_F} {f t m n : Nat} {h0 : en_H} {P : en_O → Prop} (hck : ha_all (cp_fit f t) m = true) (hf : f + m ≤ 1035) (ht : t + m ≤ 1035) (hd : f + 45 ≤ t ∨ t + 45 ≤ f) (hm : m ≤ 45)
    (hP : ∀ t' : en_H, ai_HG ah_G t' → (∀ c i, c ≠ 399 → ai_hv t' c i = ai_hv h0 c i) → (∀ i, ai_hv t' 399 i = if t ≤ i ∧ i < t + m then ai_hv h0 399 (i - t + f) else ai_hv h0 399 i) → P (.inl (none, t', n, 0))) :
    ∀ (j k : Nat) (t' : en_H), k + j = m → ai_HG ah_G t' → (∀ c i, c ≠ 399 → ai_hv t' c i = ai_hv h0 c i) → (∀ i, ai_hv t' 399 i = if t ≤ i ∧ i < t + k then ai_hv h0 399 (i - t + f) else ai_hv h0 399 i) → en_ex none fn (en_code 123) (fun _ => false) (3, cp_L f t m k, [], t', n, 0) P := by
  intro j
  induction j with
  | zero =>
    intro k t' hk hG h1 h2
    have hk : k = m := by omega
    subst hk
    refine ex_go (S := (5, cp_L f t k k, [.inl k], t', n, 0)) rfl (fun _ => rfl) rfl ?_
    refine ex_go (S := (6, cp_L f t k k, [.inl k, .inl k], t', n, 0)) rfl (fun _ => rfl) rfl ?_
    refine ex_cmp2 (r := true) rfl (en_rel_t (c := .ge) (by first | decide | omega) (by first | decide | omega) (by show (!decide (k < k)) = true; simp)) rfl ?_
    refine ex_ret (r := (none, t', n, 0)) rfl (fun _ => rfl) (hP t' hG h1 h2)
  | succ j ih =>
    intro k t' hk hG h1 h2
    refine ex_go (S := (5, cp_L f t m k, [.inl k], t', n, 0)) rfl (fun _ => rfl) rfl ?_
    refine ex_go (S := (6, cp_L f t m k, [.inl m, .inl k], t', n, 0)) rfl (fun _ => rfl) rfl ?_
    refine ex_cmp2 (r := false) rfl (en_rel_f (c := .ge) (by first | decide | omega) (by first | decide | omega) (by show (!decide (k < m)) = false; rw [decide_eq_true (by first | decide | omega)]; rfl)) rfl ?_
    show en_ex _ _ _ _ (9, cp_L f t m k, [], t', n, 0) _
    obtain ⟨os, o1, o2⟩ := ha_fld (i := 25) (c := 399) hG (by decide) rfl
    obtain ⟨vs, v1, v2, v3⟩ := ha_st hG
    refine ex_go (S := (10, cp_L f t m k, [.inr (.inr (.inl (some 383)))], t', n, 0)) rfl (fun _ => rfl) rfl ?_
    refine ex_getf (q := (10, os)) rfl o1 rfl o2 rfl ?_
    refine ex_go (S := (14, cp_L f t m k, [.inl t, .inr (.inr (.inl (some 399)))], t', n, 0)) rfl (fun _ => rfl) rfl ?_
    refine ex_go (S := (16, cp_L f t m k, [.inl k, .inl t, .inr (.inr (.inl (some 399)))], t', n, 0)) rfl (fun _ => rfl) rfl ?_
    refine ex_iadd rfl (by first | decide | omega) rfl ?_
    refine ex_go (S := (18, cp_L f t m k, [.inr (.inr (.inl (some 383))), .inl (t + k), .inr (.inr (.inl (some 399)))], t', n, 0)) rfl (fun _ => rfl) rfl ?_
    refine ex_getf (q := (10, os)) rfl o1 rfl o2 rfl ?_
    refine ex_go (S := (22, cp_L f t m k, [.inl f, .inr (.inr (.inl (some 399))), .inl (t + k), .inr (.inr (.inl (some 399)))], t', n, 0)) rfl (fun _ => rfl) rfl ?_
    refine ex_go (S := (24, cp_L f t m k, [.inl k, .inl f, .inr (.inr (.inl (some 399))), .inl (t + k), .inr (.inr (.inl (some 399)))], t', n, 0)) rfl (fun _ => rfl) rfl ?_
    refine ex_iadd rfl (by first | decide | omega) rfl ?_
    obtain ⟨x, p, x1, x2, x3, x4, x5⟩ := v3 (f + k) (by first | decide | omega)
    refine ex_aget (q := (0, vs)) (v := .inl x) (cb := fun c => Nat.beq c 0) rfl (fun _ => rfl) v1 (by show (true && Nat.blt (f + k) 2147483648) = true; rw [Bool.true_and]; exact Nat.ble_eq_true_of_le (by first | decide | omega)) (by rw [en_nth_eq]; exact x1) rfl ?_
    refine ex_aps (q := (0, vs)) (d := 0) rfl (fun _ => rfl) v1 (by show (true && (Nat.blt (t + k) 2147483648 && Nat.blt (t + k) (en_len vs))) = true; rw [en_len_eq, v2, Bool.true_and, Bool.and_eq_true]; exact ⟨Nat.ble_eq_true_of_le (by first | decide | omega), Nat.ble_eq_true_of_le (by first | decide | omega)⟩) rfl ?_
    have hfit := ha_all_ok hck k (by first | decide | omega)
    unfold cp_fit at hfit
    rw [x3] at hfit
    dsimp only at hfit
    have hG2 : ai_HG ah_G (en_set t' 399 (ai_mk ah_399 (en_upd vs (t + k) (.inl x)))) := by
      split at hfit
      · rename_i b hb
        exact ai_set_HG hG rfl v1 (by first | decide | omega) hb (ai_hle_ok hfit ⟨x, rfl, x2, x4, x5⟩)
      · cases hfit
    have hv := ai_set_hv (i := t + k) (v := .inl x) v1 (by first | decide | omega)
    have hx : ai_hv t' 399 (f + k) = some (.inl x) := by rw [ai_hv_mk v1]; exact x1
    refine ex_go (S := (30, cp_L f t m (k + 1), [], en_set t' 399 (ai_mk ah_399 (en_upd vs (t + k) (.inl x))), n, 0)) rfl (fun q => ?_) rfl ?_
    · show q 30 ((4, .inl (en_wrap (k + 1))) :: _) [] _ n 0 = _
      unfold en_wrap
      rw [Nat.mod_eq_of_lt (by first | decide | omega)]
      rfl
    refine ex_go (S := (3, cp_L f t m (k + 1), [], en_set t' 399 (ai_mk ah_399 (en_upd vs (t + k) (.inl x))), n, 0)) rfl (fun _ => rfl) rfl ?_
    refine ih (k + 1) _ (by first | decide | omega) hG2 (fun c i hc => by rw [hv, if_neg (by first | decide | omega)]; exact h1 c i hc) (fun i => ?_)
    rw [hv]
    by_cases e : i = t + k
    · rw [if_pos ⟨rfl, e⟩, if_pos (by first | decide | omega), ← hx, h2, if_neg (by first | decide | omega), e, show t + k - t + f = f + k by omega]
    · rw [if_neg (by first | decide | omega), h2]
      by_cases e2 : t ≤ i ∧ i < t + k
      · rw [if_pos e2, if_pos (by first | decide | omega)]
      · rw [if_neg e2, if_neg (by first | decide | omega)]
theorem cp_ok {d fb tb m : Nat} (hck : ha_all (cp_fit (45 * fb) (45 * tb)) m = true) (hf : fb < 23) (ht : tb < 23) (hd : fb ≠ tb) (hm : 9 ≤ m ∧ m ≤ 45) : ai_cok ah_G (en_u (d + 1)) 123 (cp_ct (45 * fb) (45 * tb) m) := by
  intro ρ as h0 n hs hG hO hE
  obtain ⟨w0, ws, rfl, g0, hs⟩ := ai_rvs_cons hs
  obtain ⟨w1, ws, rfl, g1, hs⟩ := ai_rvs_cons hs
  obtain ⟨w2, ws, rfl, g2, hs⟩ := ai_rvs_cons hs
  obtain ⟨w3, ws, rfl, g3, hs⟩ := ai_rvs_cons hs
  have hs := ai_rvs_nil hs
  subst hs
  have g0 := ha_rc (c := 383) g0
  have g1 := ha_int (m := 0) (by first | decide | omega) g1
  have g2 := ha_int (m := 0) (by first | decide | omega) g2
  have g3 := ha_int (m := 0) (by first | decide | omega) g3
  subst g0 g1 g2 g3
  obtain ⟨r, r1, r2⟩ := en_u_ex (d := d) (mi := 123) (as := [.inr (.inr (.inl (some 383))), .inl (45 * fb), .inl (45 * tb), .inl m]) (t := h0) (n := n) (P := fun r => r.1 = none ∧ r.2.2.1 = n ∧ r.2.2.2 = 0 ∧ ai_HG ah_G r.2.1 ∧ (∀ c i, c ≠ 399 → ai_hv r.2.1 c i = ai_hv h0 c i) ∧ (∀ i, ai_hv r.2.1 399 i = if 45 * tb ≤ i ∧ i < 45 * tb + m then ai_hv h0 399 (i - 45 * tb + 45 * fb) else ai_hv h0 399 i)) rfl (by
    show en_ex _ _ _ _ (0, [(0, .inr (.inr (.inl (some 383)))), (1, .inl (45 * fb)), (2, .inl (45 * tb)), (3, .inl m)], [], h0, n, 0) _
    refine ex_go (S := (1, [(0, .inr (.inr (.inl (some 383)))), (1, .inl (45 * fb)), (2, .inl (45 * tb)), (3, .inl m)], [.inl 0], h0, n, 0)) rfl (fun _ => rfl) rfl ?_
    refine ex_go (S := (3, cp_L (45 * fb) (45 * tb) m 0, [], h0, n, 0)) rfl (fun _ => rfl) rfl ?_
    exact cp_loop hck (by first | decide | omega) (by first | decide | omega) (by first | decide | omega) hm.2 (fun t' k1 k2 k3 => ⟨_, rfl, rfl, rfl, rfl, k1, k2, k3⟩) m 0 h0 (by first | decide | omega) hG (fun _ _ _ => rfl) (fun i => by rw [if_neg (by first | decide | omega)]))
  obtain ⟨s1, s2, s3, s4, s5, s6⟩ := r2
  refine ⟨r, r1, s2, s3, s4, fun c i hc => ?_, ⟨?_, ?_⟩, (none, []), List.mem_cons_self, ?_, fun q hq => by cases hq⟩
  · by_cases e : c = 399
    · subst e
      have hi : 1035 ≤ i := by
        rcases Nat.lt_or_ge i 1035 with h | h
        · exact absurd ⟨(399, 0, 1034), List.mem_cons_self, rfl, Nat.zero_le _, by show i ≤ 1034; omega⟩ hc
        · exact h
      rw [s6, if_neg (by first | decide | omega)]
    · exact s5 c i e
  · exact ⟨ai_El_kept hE.1.1 (fun i => s5 _ i (by decide)) (fun i => s5 _ i (by decide)) (fun i => s5 _ i (by decide)), ai_El_kept hE.1.2 (fun i => s5 _ i (by decide)) (fun i => s5 _ i (by decide)) (fun i => s5 _ i (by decide))⟩
  · obtain ⟨e1, e2, e3, e4⟩ := hE.2
    have hz : ai_Em h0 := hE.2
    refine ⟨?_, ?_, fun b hb => ?_, ?_⟩
    · intro k hk
      have := e1 k hk
      simp only [ai_En, s5 389 _ (by decide)] at this ⊢
      exact this
    · intro k hk
      have := e2 k hk
      simp only [ai_En, s5 396 _ (by decide)] at this ⊢
      exact this
    · by_cases e : b = tb
      · obtain ⟨x, y, z1, z2, z3⟩ := e3 fb hf
        refine ⟨x, y, ?_, ?_, z3⟩
        · rw [s6, if_pos (by first | decide | omega), ← z1]
          congr 1
          omega
        · rw [s6, if_pos (by first | decide | omega), ← z2]
          congr 1
          omega
      · rw [s6, s6, if_neg (by first | decide | omega), if_neg (by first | decide | omega)]
        exact e3 b hb
    · intro l hl
      have := e4 l hl
      simp only [ai_rpn, s5 389 _ (by decide), s5 390 _ (by decide), s5 391 _ (by decide)] at this ⊢
      exact this
  · show ai_ro ρ none r.1
    rw [s1]
    exact trivial
end HA2
