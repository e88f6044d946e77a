section ENZ
variable {p : Program} {l : Launch} {e : Env} {s : State} {m : MethodId} {below : List Frame} {meth : Method} {c : Code} {b L : Nat} {xs : Nat → Int32} {ex : Nat → Nat} {cA : Nat → ClassId} {D : va_G}
set_option maxRecDepth 1000000 in
theorem en_short_run : [0, 1, 2, 3, 4, 5, 6].all (fun L => en_end (en_run en_df (some (en_rep L (.inr (.inr (.inr (.inr (0, 4294967295))))))) en_f0 en_lawc (fun pc => Nat.beq pc 1357) 20 23 en_ls0 [] en_t0 413 31071)) = true := by decide +kernel
set_option maxRecDepth 1000000 in
theorem en_37_run : en_isS (en_run en_df (some (en_rep 7 (.inr (.inr (.inr (.inr (0, 4294967295))))))) en_f0 en_lawc (fun pc => Nat.beq pc 37) 20 23 en_ls0 [] en_t0 413 31071) (37, en_ls0, [.inr (.inr (.inr (.inr (0, 4294967295))))], en_t0, 413, 31071) = true := by decide +kernel
set_option maxRecDepth 100000 in
theorem en_d37 : decode code 37 = .ok (.bipush 31, 2) := by decide +kernel
set_option maxRecDepth 100000 in
theorem en_d39 : decode code 39 = .ok (.iand, 1) := by decide +kernel
theorem en_and31 (x : Int32) : ∃ k, k < 32 ∧ x &&& 31 = nI k := by
  refine ⟨(x &&& 31).toBitVec.toNat, ?_, (en_nI_tn _).symm⟩
  rw [Int32.toBitVec_and, BitVec.toNat_and]
  exact Nat.lt_of_le_of_lt Nat.and_le_right (by decide)
theorem en_37 (C0 : en_LC p s m meth c b ex cA D 7 xs) (h : ∀ k, k < 32 → en_LT p l e s m below meth c b ex cA D (40, en_ls0, [.inl k], en_t0, 413, 31071)) : en_LT p l e s m below meth c b ex cA D (37, en_ls0, [.inr (.inr (.inr (.inr (0, 4294967295))))], en_t0, 413, 31071) := by
  obtain ⟨⟨hx, hb, -⟩, -⟩ := C0
  refine ⟨by decide, by decide, fun H locs la vs hl hv hP hS => ?_⟩
  obtain ⟨w, ws, rfl, g1, g2⟩ := en_rvs_cons hv
  have g2 := en_rvs_nil g2
  subst g2
  obtain ⟨x, rfl, -⟩ := g1
  refine lv_bipush hx hb en_d37 (v := 31) rfl ?_
  refine lv_iand hx hb en_d39 ?_
  obtain ⟨k, hk, e1⟩ := en_and31 x
  rw [e1]
  exact (h k hk).2.2 H locs la [.int (nI k)] hl ⟨rfl, trivial⟩ hP hS
theorem en_rep_full {ba : Nat} {ex : Nat → Nat} (L : Nat) (xs : Nat → Int32) : ∀ i v, (en_rep L (.inr (.inr (.inr (.inr (0, 4294967295)))) : en_V))[i]? = some v → en_rv ba ex v (.int (xs i)) := by
  intro i v h
  rw [en_rep_eq, List.getElem?_replicate] at h
  split at h
  · cases h
    exact en_full _
  · cases h
theorem en_law_all (C0 : en_LC p s m meth c b ex cA D 7 xs) (hl : l.stackTraces = false) (hX : tx_All s) : ∀ k, k < 32 → en_LT p l e s m below meth c b ex cA D (40, en_ls0, [.inl k], en_t0, 413, 31071) := by
  intro k hk
  match k, hk with
  | 0, _ => exact en_law_0 C0
  | 1, _ => exact en_law_1 C0
  | 2, _ => exact en_law_2 C0
  | 3, _ => exact en_law_3 C0
  | 4, _ => exact en_law_4 C0
  | 5, _ => exact en_law_5 C0 hl hX.1
  | 6, _ => exact en_law_6 C0 hl hX.2.1
  | 7, _ => exact en_law_7 C0
  | 8, _ => exact en_law_8 C0
  | 9, _ => exact en_law_9 C0
  | 10, _ => exact en_law_10 C0
  | 11, _ => exact en_law_11 C0
  | 12, _ => exact en_law_12 C0
  | 13, _ => exact en_law_13 C0
  | 14, _ => exact en_law_14 C0
  | 15, _ => exact en_law_15 C0
  | 16, _ => exact en_law_16 C0
  | 17, _ => exact en_law_17 C0
  | 18, _ => exact en_law_18 C0
  | 19, _ => exact en_law_19 C0
  | 20, _ => exact en_law_20 C0
  | 21, _ => exact en_law_21 C0 hl hX.2.2
  | 22, _ => exact en_law_22 C0
  | 23, _ => exact en_law_23 C0
  | 24, _ => exact en_law_24 C0
  | 25, _ => exact en_law_25 C0
  | 26, _ => exact en_law_26 C0
  | 27, _ => exact en_law_27 C0
  | 28, _ => exact en_law_28 C0
  | 29, _ => exact en_law_29 C0
  | 30, _ => exact en_law_30 C0
  | 31, _ => exact en_law_31 C0
  | k + 32, h => omega
theorem en_law_h23 (C0 : en_LC p s m meth c b ex cA D L xs) (hl : l.stackTraces = false) (hX : tx_All s) (hL : L ≤ 7) : en_LT p l e s m below meth c b ex cA D (23, en_ls0, [], en_t0, 413, 31071) := by
  by_cases h7 : L = 7
  · subst h7
    refine en_sound C0.1 (oc := some (en_rep 7 (.inr (.inr (.inr (.inr (0, 4294967295))))))) (fun L' hL' => ?_) (en_call_sound en_ml_ok en_code_ok l _ ex cA D 20) en_lawc_ok 20 23 _ _ _ _ _ _ (Nat.zero_le _) (en_isS_ok en_37_run) (fun r hr => by cases hr) (fun S' hS => by cases hS; exact en_37 C0 (en_law_all C0 hl hX))
    cases hL'
    exact ⟨xs, by rw [C0.2.1]; exact C0.2.2.1, by rw [C0.2.1]; exact C0.2.2.2, by rw [C0.2.1]; exact Nat.not_le.mpr C0.2.2.2, en_rep_full 7 xs⟩
  · exact en_law_go C0 (by rw [en_rep_eq, List.length_replicate]) (en_rep_full L xs) (List.all_eq_true.mp en_short_run L (by simp only [List.mem_cons, List.not_mem_nil, or_false]; omega))
theorem en_h0_ph : ∀ (k : Nat) (cl : en_C), en_get en_h0 k = some cl → cl = en_ph := by
  intro k cl h
  unfold en_get en_h0 at h
  rw [en_nth_eq, en_rep_eq, List.getElem?_replicate] at h
  split at h
  · cases h
  · rename_i r hr
    split at hr
    · cases hr
      rw [en_nth_eq, en_rep_eq, List.getElem?_replicate] at h
      split at h
      · cases h
        rfl
      · cases h
    · cases hr
/-- from the entry, for every script of at most 7 ints, the law comes to its end with true -/
theorem whole_start {p : Program} {e : Env} {s : State} {m : MethodId} {below : List Frame} {meth : Method} {c : Code} (l : Launch) (hlt : l.stackTraces = false) {b L : Nat} {xs : Nat → Int32} (hL : L ≤ 7) (C0 : lw_At p s m meth c b L xs) : W p l e room_1 s m #[Value.ref b] below meth c s.heap [] 0 0 (lw_Z below #[Value.ref b] s) (entryFrame m ([Value.ref b] : List Value).toArray 7) := by
  obtain ⟨hx, hb, hr, hml, hown, hts, hX, hbl, hlk, hnar, hname⟩ := C0
  obtain ⟨ex, cA, D, hex, hKw⟩ := en_world hts hnar
  have C1 : en_LC p s m meth c b ex cA D L xs := ⟨⟨hx, hb, hml, rfl, hown, fun w hw => hts w (en_gt_lw hw), hKw, hlk, hr, hname, by decide, by decide, by decide, by decide⟩, hex, hX, hbl⟩
  rw [lg_entry_eq]
  have hl := lv_entry [Value.ref b] (n := 7) (Nat.le_of_ble_eq_true rfl)
  have T8 : en_LT p l e s m below meth c b ex cA D (8, [(1, .inr (.inr (.inl (some 0)))), (0, .inr (.inr (.inr (.inl 2))))], [], en_tD, 383, 17141) := en_sound C1.1 (oc := none) (fun L' hL' => by cases hL') (en_call_sound en_ml_ok en_code_ok l _ ex cA D 20) en_lawc_ok 100 8 _ _ _ _ _ _ (Nat.zero_le _) (en_isS_ok en_start) (fun r hr => by cases hr) (fun S' hS => by cases hS; exact en_law_h23 C1 hlt (tx_start hts hnar) hL)
  have T0 : en_LT p l e s m below meth c b ex cA D (0, [(0, .inr (.inr (.inr (.inl 2))))], [], en_h0, 0, 0) := by
    obtain ⟨fuel, o, h1, rfl⟩ := en_to8
    exact en_sound C1.1 (oc := none) (fun L' hL' => by cases hL') (en_fn_hf l _ ex cA D) en_lawc_ok fuel 0 _ _ _ _ _ _ (Nat.zero_le _) h1 (fun r hr => by cases hr) (fun S' hS => by cases hS; exact T8)
  exact T0.2.2 s.heap [] _ [] ⟨_, hl, ⟨rfl, by show Value.ref b = Value.ref (ex 1); rw [hex]⟩, trivial⟩ trivial ⟨rfl, fun k cl h => Or.inl (en_h0_ph k cl h)⟩ va_S.rf
end ENZ
