section SST
theorem sr_pb_l (d n : Nat) {t0 : en_H} {w : Nat → Nat → Nat} {L : List Nat} {p s : Nat} {Q : en_O → Prop} (g0 : ai_HG ah_G t0) (hR : RW t0 w L) (hp : p < 64) (hs : s ≤ 1000) (hQ : ∀ cl, en_ld cl 3 = some (.inl (jmp (w 0 0) (w 0 1) (w 1) s p)) → en_ex none (en_u (d + 3)) (en_code 129) (fun _ => false) (23, cl, [], t0, n, 0) Q) : ∀ j k cl, k + j = s → en_ld cl 0 = some (gx_r 383) → en_ld cl 2 = some (.inl s) → en_ld cl 3 = some (.inl (jmp (w 0 0) (w 0 1) (w 1) k p)) → en_ld cl 4 = some (.inl k) → en_ex none (en_u (d + 3)) (en_code 129) (fun _ => false) (5, cl, [], t0, n, 0) Q := by
  intro j
  induction j with
  | zero =>
    intro k cl hk l0 l2 l3 l4
    have hk : k = s := by omega
    rw [hk] at l3 l4
    refine gx_ld (i := 4) (d := 0) (v := .inl s) rfl (fun _ => rfl) l4 rfl rfl ?_
    refine gx_ld (i := 2) (d := 0) (v := .inl s) rfl (fun _ => rfl) l2 rfl rfl ?_
    refine gx_2t (c := .ge) rfl (by first | decide | omega) (by first | decide | omega) (show s ≤ s from by omega) rfl ?_
    exact hQ _ l3
  | succ j ih =>
    intro k cl hk l0 l2 l3 l4
    refine gx_ld (i := 4) (d := 0) (v := .inl k) rfl (fun _ => rfl) l4 rfl rfl ?_
    refine gx_ld (i := 2) (d := 0) (v := .inl s) rfl (fun _ => rfl) l2 rfl rfl ?_
    refine gx_2f (c := .ge) rfl (by first | decide | omega) (by first | decide | omega) (show ¬ (s ≤ k) from by omega) rfl ?_
    refine gx_ld (i := 0) (d := 2) (v := gx_r 383) rfl (fun _ => rfl) l0 rfl rfl ?_
    refine gx_ld (i := 3) (d := 0) (v := .inl (jmp (w 0 0) (w 0 1) (w 1) k p)) rfl (fun _ => rfl) l3 rfl rfl ?_
    obtain ⟨_, r21, rfl⟩ := sr_flowsTo d n (p := jmp (w 0 0) (w 0 1) (w 1) k p) g0 hR (jmp_lt hR.2.1.1 hR.2.1.2.1 hp k)
    refine gx_call1 rfl rfl g0 rfl rfl r21 rfl ?_
    show en_ex _ _ _ _ (16, cl, [.inl (jmp (w 0 0) (w 0 1) (w 1) (k + 1) p)], t0, n, 0) _
    refine gx_sto (i := 3) (d := 0) rfl (fun _ => rfl) rfl rfl (fun l22 hl22 ml22 => ?_)
    have l22_0 : en_ld l22 0 = some (gx_r 383) := ml22 0 _ l0 rfl
    have l22_2 : en_ld l22 2 = some (.inl s) := ml22 2 _ l2 rfl
    have l22_4 : en_ld l22 4 = some (.inl k) := ml22 4 _ l4 rfl
    refine gx_incS (i := 4) (a := k) (x := 1) rfl (fun _ => rfl) l22_4 (by first | decide | omega) rfl (fun l23 hl23 ml23 => ?_)
    have l23_0 : en_ld l23 0 = some (gx_r 383) := ml23 0 _ l22_0 rfl
    have l23_2 : en_ld l23 2 = some (.inl s) := ml23 2 _ l22_2 rfl
    have l23_3 : en_ld l23 3 = some (.inl (jmp (w 0 0) (w 0 1) (w 1) (k + 1) p)) := ml23 3 _ hl22 rfl
    refine ex_go (S := (5, l23, [], t0, n, 0)) rfl (fun _ => rfl) rfl ?_
    exact ih (k + 1) _ (by first | decide | omega) l23_0 l23_2 l23_3 hl23
theorem sr_placeBehind (d n : Nat) {t0 : en_H} {w : Nat → Nat → Nat} {L : List Nat} {p s : Nat} (g0 : ai_HG ah_G t0) (hR : RW t0 w L) (hp : p < 64) (hs : s ≤ 1000) : ∃ r, en_u (d + 4) 129 [gx_r 383, .inl p, .inl s] t0 n = some r ∧ r = (some (.inl (jmp (w 0 0) (w 0 1) (w 1) s p)), t0, n, 0) := by
  refine en_u_ex (d := d + 3) rfl ?_
  show en_ex _ _ _ _ (0, [(0, gx_r 383), (1, .inl p), (2, .inl s)], [], t0, n, 0) _
  refine ex_go (S := (1, [(0, gx_r 383), (1, .inl p), (2, .inl s)], [.inl p], t0, n, 0)) rfl (fun _ => rfl) rfl ?_
  refine ex_go (S := (2, [(3, .inl p), (0, gx_r 383), (1, .inl p), (2, .inl s)], [], t0, n, 0)) rfl (fun _ => rfl) rfl ?_
  refine ex_go (S := (3, [(3, .inl p), (0, gx_r 383), (1, .inl p), (2, .inl s)], [.inl 0], t0, n, 0)) rfl (fun _ => rfl) rfl ?_
  refine ex_go (S := (5, [(4, .inl 0), (3, .inl p), (0, gx_r 383), (1, .inl p), (2, .inl s)], [], t0, n, 0)) rfl (fun _ => rfl) rfl ?_
  refine sr_pb_l d n (s := s) g0 hR hp hs (fun cl l3 => ?_) s 0 _ (by first | decide | omega) rfl rfl rfl rfl
  refine gx_ld (i := 3) (d := 0) (v := .inl (jmp (w 0 0) (w 0 1) (w 1) s p)) rfl (fun _ => rfl) l3 rfl rfl ?_
  refine ex_ret (r := (some (.inl (jmp (w 0 0) (w 0 1) (w 1) s p)), t0, n, 0)) rfl (fun _ => rfl) ?_
  exact ⟨_, rfl, rfl⟩
theorem wh_bit0 : ai_all (fun s => ai_all (fun i => Nat.beq ((nI (nI s >>> (nI i &&& 31)).toBitVec.toNat &&& nI 1).toBitVec.toNat) (s / 2 ^ i % 2)) (List.range 16)) (List.range 201) = true := by decide +kernel
theorem wh_bit (s : Nat) (hs : s < 201) (i : Nat) (hi : i < 16) : (nI (nI s >>> (nI i &&& 31)).toBitVec.toNat &&& nI 1).toBitVec.toNat = s / 2 ^ i % 2 :=
  Nat.eq_of_beq_eq_true (ai_all_ok (ai_all_ok wh_bit0 s (List.mem_range.mpr hs)) i (List.mem_range.mpr hi))
theorem wh_step {O D : Nat} {F : Nat → Nat} {s i p : Nat} : jmp O D F (s % 2 ^ (i + 1)) p = if s / 2 ^ i % 2 = 0 then jmp O D F (s % 2 ^ i) p else jmp O D F (2 ^ i) (jmp O D F (s % 2 ^ i) p) := by
  have h := Nat.mod_pow_succ (x := s) (b := 2) (k := i)
  rw [h]
  rcases (show s / 2 ^ i % 2 = 0 ∨ s / 2 ^ i % 2 = 1 by omega) with e | e
  · rw [if_pos e, e, Nat.mul_zero, Nat.add_zero]
  · rw [if_neg (by first | decide | omega), e, Nat.mul_one, jmp_add]
end SST
