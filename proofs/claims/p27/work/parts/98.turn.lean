section PKI
/-! ### a run that comes back has met no stop -/
theorem en_run_ns {oc : Option (List en_V)} {f : en_F} {code : Nat → Option en_I} {stop : Nat → Bool} : ∀ (fuel pc : Nat) (ls : en_L) (st : List en_V) (t : en_H) (n sl : Nat) (r : en_R), en_run en_df oc f code stop fuel pc ls st t n sl = some (.inl r) → en_run en_df oc f code (fun _ => false) fuel pc ls st t n sl = some (.inl r)
  | 0, _, _, _, _, _, _, _, h => by cases h
  | fuel + 1, pc, ls, st, t, n, sl, r, h => by
    rw [en_run_succ] at h
    rw [en_run_succ]
    cases hc : code pc with
    | none => rw [hc] at h; cases h
    | some e =>
      rw [hc] at h
      dsimp only at h ⊢
      cases hs : en_step en_df oc f pc e ls st t n sl en_k0 with
      | none => rw [hs] at h; cases h
      | some q =>
        rw [hs] at h
        cases q with
        | inl r' => exact h
        | inr S =>
          have h : (bif stop S.1 then some (Sum.inr (S.1, S.2.1, S.2.2.1, S.2.2.2.1, S.2.2.2.2.1, S.2.2.2.2.2)) else en_run en_df oc f code stop fuel S.1 S.2.1 S.2.2.1 S.2.2.2.1 S.2.2.2.2.1 S.2.2.2.2.2) = some (.inl r) := h
          show en_run en_df oc f code (fun _ => false) fuel S.1 S.2.1 S.2.2.1 S.2.2.2.1 S.2.2.2.2.1 S.2.2.2.2.2 = some (.inl r)
          cases hp : stop S.1 with
          | true => rw [hp] at h; cases h
          | false =>
            rw [hp] at h
            exact en_run_ns fuel _ _ _ _ _ _ _ h
/-! ### what the throwers leave -/
noncomputable def pi_wk (wr : ai_W) (s : ai_O) : Bool := ai_all (fun q => pi_out wr q.1 q.2.1) s && (pi_out wr 1 0 && (pi_out wr 383 2 && (pi_no wr && (pi_nu wr && pi_nm wr))))
theorem pi_frame {i : Nat} {wr : ai_W} {s : ai_O} {t t1 : en_H} (hS : pi_S s) (hs : ai_HO s t) (hl : pi_T t ∧ pi_U t ∧ pi_M (5 * i) t) (hk : pi_wk wr s = true) (hG : ai_HG ah_G t1) (hE : ai_E t1) (hf : ai_FR wr t t1) : pi_I i t1 := by
  unfold pi_wk at hk
  simp only [Bool.and_eq_true] at hk
  obtain ⟨k1, k2, k3, k4, k5, k6⟩ := hk
  refine ⟨hG, hE, ⟨s, hS, fun q hq => ?_⟩, pi_T_keep hl.1 (pi_K_of k2 k3 k4 hf), pi_U_keep hl.2.1 (pi_L_of k5 hf), pi_M_keep hl.2.2 (pi_N_of k6 hf)⟩
  obtain ⟨v, v1, v2⟩ := hs q hq
  exact ⟨v, (hf q.1 q.2.1 (pi_out_ok (ai_all_ok k1 q hq))).trans v1, v2⟩
theorem pi_412 {i : Nat} {t t1 : en_H} (hI : pi_I i t) (hG : ai_HG ah_G t1) (hf : ∀ c i, c ≠ 412 → ai_hv t1 c i = ai_hv t c i) : pi_I i t1 := by
  obtain ⟨-, hE, ⟨s, hS, hs⟩, hl⟩ := hI
  exact ⟨hG, ai_E_kept hE (fun c i hz => hf c i (fun z => by rw [z] at hz; exact absurd hz (by decide))), ⟨s, hS, pi_far hS hs (fun c i h1 h2 h3 => hf c i (by first | decide | omega))⟩, pi_T_keep hl.1 (fun c i h => hf c i (by first | decide | omega)), pi_U_keep hl.2.1 (fun c i h => hf c i (by unfold pi_LC at h; omega)), pi_M_keep hl.2.2 ⟨fun c i h => hf c i (by unfold pi_VX at h; omega), fun c i h => hf c i (by unfold pi_VZ RSC CSC at h; omega)⟩⟩
/-- a thrower comes back, or comes to its throw -/
noncomputable def pi_Th (i mi sp : Nat) (as : List en_V) (t : en_H) (n : Nat) : Prop := (∃ v t1, en_u 61 mi as t n = some (some (.inl v), t1, n, 0) ∧ pi_I i t1) ∨ ∃ fuel ls t1, en_run en_df none (en_u 60) (en_code mi) (fun pc => Nat.beq pc sp) fuel 0 (en_args as 0) [] t n 0 = some (.inr (sp, ls, [], t1, n, 0)) ∧ pi_I i t1
noncomputable def pi_ck (sp : Nat) (cuts : List ai_K) : Bool := ai_all (fun c => bif Nat.beq c.1 sp then (match c.2.2.1 with | [] => true | _ => false) else true) cuts
theorem pi_th {i mi sp : Nat} {as : List en_V} {t : en_H} {n : Nat} {s : ai_O} {wr : ai_W} {outs : List (Option ai_v × ai_O)} {cuts : List ai_K} (hS : pi_S s) (hs : ai_HO s t) (hl : pi_T t ∧ pi_U t ∧ pi_M (5 * i) t) (hk : pi_wk wr s = true) (ho : pi_int outs = true) (hc : pi_ck sp cuts = true)
    (h : Nat.ble (en_sum as) (en_ml mi) = true ∧ en_ex none (en_u 60) (en_code mi) (fun pc => Nat.beq pc sp) (0, en_args as 0, [], t, n, 0) (ai_Ps ag_G wr t n outs cuts sp)) : pi_Th i mi sp as t n := by
  obtain ⟨h1, fuel, o, h2, h3⟩ := h
  rcases h3 with ⟨v, t1, rfl, g1, f1, E1, q, hq, r1, r2⟩ | ⟨c, hc1, hc2, cl, cst, t1, rfl, k1, k2, g1, o1, f1, E1⟩
  · obtain ⟨m, rfl⟩ := pi_int_ok ho hq (r1 (fun _ => 0))
    exact Or.inl ⟨m, t1, en_u_at ⟨h1, fuel, en_run_ns _ _ _ _ _ _ _ _ h2⟩, pi_frame hS hs hl hk g1 E1 f1⟩
  · have h4 := ai_all_ok hc c hc1
    rw [hc2, Nat.beq_refl] at h4
    have h4 : (match c.2.2.1 with | [] => true | _ => false) = true := h4
    have k3 := k2 (fun _ => 0)
    split at h4
    · rename_i e
      rw [e] at k3
      have k4 := ai_rvs_nil k3
      subst k4
      exact Or.inr ⟨fuel, cl, t1, h2, pi_frame hS hs hl hk g1 E1 f1⟩
    · cases h4
/-! ### the law's script -/
noncomputable def lw_scr (L : Nat) (xs : Nat → Int32) : List en_V := (List.range L).map (fun i => .inl (xs i).toBitVec.toNat)
theorem lw_scr_at {L : Nat} {xs : Nat → Int32} {i : Nat} (h : i < L) : (lw_scr L xs)[i]? = some (.inl (xs i).toBitVec.toNat) := by
  unfold lw_scr
  rw [List.getElem?_map, List.getElem?_range h]
  rfl
theorem lw_scr_ok {L : Nat} (xs : Nat → Int32) (hL : L ≤ 3584) : lw_Lv (lw_scr L xs) L := ⟨by unfold lw_scr; rw [List.length_map, List.length_range], hL, fun j hj => ⟨_, (xs j).toBitVec.isLt, lw_scr_at hj⟩⟩
section
variable {p : Program} {l : Launch} {e : Env} {s : State} {m : MethodId} {below : List Frame} {meth : Method} {c : Code} {b L : Nat} {xs : Nat → Int32} {ex : Nat → Nat} {cA : Nat → ClassId} {D : va_G}
theorem lw_ho {d : Nat} (C0 : en_LC d p s m meth c b ex cA D L xs) : ∀ L', some (lw_scr L xs) = some L' → ∃ xs : Nat → Int32, va_X (ex 1) L'.length xs s s.heap ∧ ex 1 < s.heap.size ∧ ¬ s.heap.size ≤ ex 1 ∧ ∀ i v, L'[i]? = some v → en_rv s.heap.size ex v (.int (xs i)) := by
  intro L' hL
  cases hL
  refine ⟨xs, by rw [C0.2.1, show (lw_scr L xs).length = L by unfold lw_scr; rw [List.length_map, List.length_range]]; exact C0.2.2.1, by rw [C0.2.1]; exact C0.2.2.2, by rw [C0.2.1]; exact Nat.not_le.mpr C0.2.2.2, fun i v hv => ?_⟩
  have hi : i < L := by
    rcases Nat.lt_or_ge i L with h | h
    · exact h
    · unfold lw_scr at hv
      rw [List.getElem?_eq_none (by rw [List.length_map, List.length_range]; exact h)] at hv
      cases hv
  rw [lw_scr_at hi] at hv
  cases hv
  show Value.int (xs i) = Value.int (nI (xs i).toBitVec.toNat)
  rw [en_nI_tn]
theorem lw_at {d d' : Nat} (C0 : en_LC d p s m meth c b ex cA D L xs) (hd : d' ≤ 62) : en_LC d' p s m meth c b ex cA D L xs := by
  obtain ⟨⟨a1, a2, a3, a4, a5, a6, a7, a8, a9, a10, -, -, a11, a12⟩, h⟩ := C0
  exact ⟨⟨a1, a2, a3, a4, a5, a6, a7, a8, a9, a10, by show d' + 1 ≤ 2048; omega, by show 64 * (d' + 1) ≤ 84000; omega, a11, a12⟩, h⟩
/-- a run of the law in the engine, to a stop -/
theorem lt_go {S : en_S} {stop : Nat → Bool} {P : en_O → Prop} (C0 : en_LC 60 p s m meth c b ex cA D L xs) (h : en_ex (some (lw_scr L xs)) (en_u 60) en_lawc stop S P) (hP : ∀ o, P o → ∃ S', o = .inr S' ∧ en_LT p l e s m below meth c b ex cA D S') : en_LT p l e s m below meth c b ex cA D S := by
  obtain ⟨fuel, o, h1, h2⟩ := h
  obtain ⟨S', rfl, h3⟩ := hP o h2
  exact en_sound C0.1 (lw_ho C0) (en_u_hf l _ ex cA D 60) en_lawc_ok fuel _ _ _ _ _ _ _ (Nat.zero_le _) h1 (fun r hr => by cases hr) (fun S9 hS => by cases hS; exact h3)
set_option maxRecDepth 100000 in
theorem en_d1272 : decode code 1272 = .ok (.ireturn, 1) := by decide +kernel
theorem lt_end {d : Nat} (C0 : en_LC d p s m meth c b ex cA D L xs) {cl : en_L} {t : en_H} {n sl : Nat} (h3 : n ≤ 601024) (h4 : sl ≤ 7293034) : en_LT p l e s m below meth c b ex cA D (1272, cl, [.inl 1], t, n, sl) := by
  obtain ⟨⟨hx, hb, -, -, -, -, -, hlk, hret, -⟩, -⟩ := C0
  refine ⟨h3, h4, fun H locs la vs hl hv hP hS => ?_⟩
  obtain ⟨w, ws, rfl, g1, g2⟩ := en_rvs_cons hv
  have g2 := en_rvs_nil g2
  subst g2
  have g1 : w = .int (nI 1) := g1
  subst g1
  refine va_forget hS.2.2 (W.widen (k := 601024) (n := 7293034) (by show n - 0 ≤ _; omega) h4 ?_)
  exact lw_ret hx hb hret hlk en_d1272
end
end PKI
