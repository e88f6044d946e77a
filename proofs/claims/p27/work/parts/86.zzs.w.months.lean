section SSW
/-! small longs -/
theorem zk_l0 {y : Nat} (hy : y < 9223372036854775808) (h0 : 0 < y) : ¬ lN y = 0 := by
  intro h
  have a := zk_lN hy
  rw [h] at a
  have z : (0 : Int64).toInt = 0 := by decide
  rw [z] at a
  omega
theorem zk_lrem {x y : Nat} (hx : x < 9223372036854775808) (hy : y < 9223372036854775808) (h0 : 0 < y) : en_lrem x y = some (x % y) := by
  have e1 : lN x / lN y = lN (x / y) := by
    have h := zk_ldiv hx hy h0
    unfold en_ldiv at h
    rw [if_neg (zk_l0 hy h0)] at h
    have h2 := Option.some.inj h
    rw [← h2, en_lN_tn]
  have hd := Nat.div_add_mod x y
  rw [Nat.mul_comm] at hd
  have hz : x / y * y ≤ x := Nat.div_mul_le_self x y
  have e2 : (lN (x / y) * lN y).toBitVec.toNat = x / y * y := sp_lmul (by first | decide | omega)
  have e3 : lN (x / y) * lN y = lN (x / y * y) := by rw [← e2, en_lN_tn]
  unfold en_lrem
  rw [if_neg (zk_l0 hy h0), e1, e3, Int64.toBitVec_sub, BitVec.toNat_sub, sp_lN_bv, sp_lN_bv, BitVec.toNat_ofNat, BitVec.toNat_ofNat]
  congr 1
  omega
section
variable {oc : Option (List en_V)} {f : en_F} {code : Nat → Option en_I} {stop : Nat → Bool} {P : en_O → Prop}
variable {pc nx : Nat} {ls : en_L} {st : List en_V} {t : en_H} {n sl : Nat}
theorem gx_lremn {x1 x2 a b : Nat} (hc : code pc = some (.lrem, nx, x1, x2)) (ha : a < 9223372036854775808) (hb : b < 9223372036854775808) (h0 : 0 < b) (hp : stop nx = false) (h : en_ex oc f code stop (nx, ls, .inr (.inl (a % b)) :: st, t, n, sl) P) : en_ex oc f code stop (pc, ls, .inr (.inl b) :: .inr (.inl a) :: st, t, n, sl) P := by
  refine ex_go (S := (nx, ls, .inr (.inl (a % b)) :: st, t, n, sl)) hc (fun k => ?_) hp h
  show (match (match en_lrem a b with | some z => some (.inr (.inl z)) | none => none) with | some v => k nx ls (v :: st) t n sl | none => none) = _
  rw [zk_lrem ha hb h0]
end
/-! draws, and bears that stray -/
noncomputable def dr1 (g : Nat) : Nat := (g * 1103515245 + 12345) % 2147483648
noncomputable def dv (g : Nat) : Nat := g / 65536 % 10
theorem dr1_lt (g : Nat) : dr1 g < 2147483648 := Nat.mod_lt _ (by decide)
theorem dv_lt (g : Nat) : dv g ≤ 9 := Nat.le_of_lt_succ (Nat.mod_lt _ (by decide))
noncomputable def sgn (w : Nat → Nat → Nat) (g : Nat) : Nat → Nat
  | 0 => g
  | i + 1 => if w 5 i = 2 then dr1 (sgn w g i) else sgn w g i
theorem sgn_lt {w : Nat → Nat → Nat} {g : Nat} (h : g < 2147483648) : ∀ i, sgn w g i < 2147483648
  | 0 => h
  | i + 1 => by
    show (if w 5 i = 2 then dr1 (sgn w g i) else sgn w g i) < _
    split
    · exact dr1_lt _
    · exact sgn_lt h i
theorem sgn_y {w : Nat → Nat → Nat} {g i : Nat} (h : w 5 i = 2) : sgn w g (i + 1) = dr1 (sgn w g i) := if_pos h
theorem sgn_n {w : Nat → Nat → Nat} {g i : Nat} (h : ¬ w 5 i = 2) : sgn w g (i + 1) = sgn w g i := if_neg h
noncomputable def spl (w : Nat → Nat → Nat) (g : Nat) (σ : Nat → Nat) (i : Nat) : Nat := if w 5 i = 2 then nb (w 0 0) (w 0 1) (σ (1 + i)) (dv (dr1 (sgn w g i))) else σ (1 + i)
theorem spl_y {w : Nat → Nat → Nat} {g i : Nat} {σ : Nat → Nat} (h : w 5 i = 2) : spl w g σ i = nb (w 0 0) (w 0 1) (σ (1 + i)) (dv (dr1 (sgn w g i))) := if_pos h
theorem spl_n {w : Nat → Nat → Nat} {g i : Nat} {σ : Nat → Nat} (h : ¬ w 5 i = 2) : spl w g σ i = σ (1 + i) := if_neg h
noncomputable def stray (w : Nat → Nat → Nat) (g : Nat) (σ : Nat → Nat) (j : Nat) : Nat := if 1 ≤ j ∧ j ≤ 6 ∧ j - 1 < w 0 2 then spl w g σ (j - 1) else σ j
theorem stray_pl {w : Nat → Nat → Nat} {g i : Nat} {σ : Nat → Nat} (h : i < 6) : stray w g σ (1 + i) = if i < w 0 2 then spl w g σ i else σ (1 + i) := by
  unfold stray
  rw [show 1 + i - 1 = i by omega]
  by_cases c : i < w 0 2
  · rw [if_pos c, if_pos (by first | decide | omega)]
  · rw [if_neg c, if_neg (by first | decide | omega)]
theorem stray_o {w : Nat → Nat → Nat} {g j : Nat} {σ : Nat → Nat} (h : j = 0 ∨ 7 ≤ j) : stray w g σ j = σ j := if_neg (by first | decide | omega)
theorem nb_ge {O D p s : Nat} (h : 4 ≤ s) : nb O D p s = p := (if_neg (by first | decide | omega)).trans ((if_neg (by first | decide | omega)).trans ((if_neg (by first | decide | omega)).trans (if_neg (by first | decide | omega))))
theorem sbd_stray {w : Nat → Nat → Nat} {g : Nat} {σ : Nat → Nat} (hw : WS w) (h : sbd σ) : sbd (stray w g σ) := by
  obtain ⟨h1, h7, h11, h13, h15, h0, h9, h10⟩ := h
  refine ⟨fun i hi => ?_, ?_, ?_, ?_, ?_, ?_, ?_, ?_⟩
  · rw [stray_pl hi]
    have := h1 i hi
    split
    · unfold spl
      split
      · have := nb_lt (O := w 0 0) (D := w 0 1) (p := σ (1 + i)) (s := dv (dr1 (sgn w g i))) (by first | decide | omega) hw.1.1 hw.1.2.1
        omega
      · exact this
    · exact this
  · rw [stray_o (by first | decide | omega), stray_o (by first | decide | omega)]; exact h7
  · rw [stray_o (by first | decide | omega), stray_o (by first | decide | omega)]; exact h11
  · rw [stray_o (by first | decide | omega), stray_o (by first | decide | omega)]; exact h13
  · rw [stray_o (by first | decide | omega), stray_o (by first | decide | omega)]; exact h15
  · rw [stray_o (by first | decide | omega)]; exact h0
  · rw [stray_o (by first | decide | omega)]; exact h9
  · rw [stray_o (by first | decide | omega)]; exact h10
/-- is a place visited by one of the first k things -/
noncomputable def visn (w : Nat → Nat → Nat) (σ : Nat → Nat) (p : Nat) : Nat → Bool
  | 0 => false
  | k + 1 => visn w σ p k || (decide (w 5 k ≤ 1) && decide (σ (1 + k) = p))
theorem visn_y {w : Nat → Nat → Nat} {σ : Nat → Nat} {p k : Nat} (h : visn w σ p k = true ∨ (w 5 k ≤ 1 ∧ σ (1 + k) = p)) : visn w σ p (k + 1) = true := by
  show (visn w σ p k || (decide (w 5 k ≤ 1) && decide (σ (1 + k) = p))) = true
  rw [Bool.or_eq_true, Bool.and_eq_true, decide_eq_true_eq, decide_eq_true_eq]
  exact h
theorem visn_n {w : Nat → Nat → Nat} {σ : Nat → Nat} {p k : Nat} (h : visn w σ p k = false) (h2 : ¬ (w 5 k ≤ 1 ∧ σ (1 + k) = p)) : visn w σ p (k + 1) = false := by
  apply Bool.eq_false_iff.mpr
  intro z
  have z : (visn w σ p k || (decide (w 5 k ≤ 1) && decide (σ (1 + k) = p))) = true := z
  rw [Bool.or_eq_true, Bool.and_eq_true, decide_eq_true_eq, decide_eq_true_eq, h] at z
  rcases z with z | z
  · cases z
  · exact h2 z
theorem visn_mono {w : Nat → Nat → Nat} {σ : Nat → Nat} {p k : Nat} (h : visn w σ p k = true) : ∀ j, visn w σ p (k + j) = true
  | 0 => h
  | j + 1 => visn_y (Or.inl (visn_mono h j))
noncomputable def b2n (b : Bool) : Nat := bif b then 1 else 0
theorem b2n_le (b : Bool) : b2n b ≤ 1 := by cases b <;> decide
noncomputable def bearn (w : Nat → Nat → Nat) (σ : Nat → Nat) : Nat → Nat
  | 0 => 0
  | k + 1 => bearn w σ k + (if w 5 k = 2 then b2n (visn w σ (σ (1 + k)) (w 0 2)) else 0)
theorem bearn_y {w : Nat → Nat → Nat} {σ : Nat → Nat} {k : Nat} (h : w 5 k = 2) : bearn w σ (k + 1) = bearn w σ k + b2n (visn w σ (σ (1 + k)) (w 0 2)) := by
  show bearn w σ k + (if w 5 k = 2 then _ else 0) = _
  rw [if_pos h]
theorem bearn_n {w : Nat → Nat → Nat} {σ : Nat → Nat} {k : Nat} (h : ¬ w 5 k = 2) : bearn w σ (k + 1) = bearn w σ k := by
  show bearn w σ k + (if w 5 k = 2 then _ else 0) = _
  rw [if_neg h]; rfl
theorem bearn_le {w : Nat → Nat → Nat} {σ : Nat → Nat} : ∀ k, bearn w σ k ≤ k
  | 0 => Nat.le_refl _
  | k + 1 => by
    have := bearn_le (w := w) (σ := σ) k
    have := b2n_le (visn w σ (σ (1 + k)) (w 0 2))
    by_cases c : w 5 k = 2
    · rw [bearn_y c]; omega
    · rw [bearn_n c]; omega
noncomputable def hun (σ : Nat → Nat) : Nat → Bool
  | 0 => false
  | k + 1 => hun σ k || decide (σ (7 + k) = 0)
theorem hun_y {σ : Nat → Nat} {k : Nat} (h : hun σ k = true ∨ σ (7 + k) = 0) : hun σ (k + 1) = true := by
  show (hun σ k || decide (σ (7 + k) = 0)) = true
  rw [Bool.or_eq_true, decide_eq_true_eq]
  exact h
theorem hun_n {σ : Nat → Nat} {k : Nat} (h : hun σ k = false) (h2 : ¬ σ (7 + k) = 0) : hun σ (k + 1) = false := by
  show (hun σ k || decide (σ (7 + k) = 0)) = false
  rw [h, decide_eq_false h2]; rfl
theorem hun_mono {σ : Nat → Nat} {k : Nat} (h : hun σ k = true) : ∀ j, hun σ (k + j) = true
  | 0 => h
  | j + 1 => hun_y (Or.inl (hun_mono h j))
/-! the months -/
noncomputable def mos (w : Nat → Nat → Nat) (L : List Nat) (σ : Nat → Nat) (g : Nat) : Nat → (Nat → Nat) × Nat
  | 0 => (σ, g)
  | k + 1 => (stp w L (stray w (mos w L σ g k).2 (mos w L σ g k).1), sgn w (mos w L σ g k).2 (w 0 2))
noncomputable def mov (w : Nat → Nat → Nat) (L : List Nat) (σ : Nat → Nat) (g : Nat) : Nat → Nat
  | 0 => 0
  | k + 1 => mov w L σ g k + bearn w (mos w L σ g (k + 1)).1 (w 0 2)
noncomputable def moe (w : Nat → Nat → Nat) (L : List Nat) (σ : Nat → Nat) (g : Nat) : Nat → Nat
  | 0 => 0
  | k + 1 => moe w L σ g k + eaten w L (stray w (mos w L σ g k).2 (mos w L σ g k).1)
noncomputable def moh (w : Nat → Nat → Nat) (L : List Nat) (σ : Nat → Nat) (g : Nat) : Nat → Nat
  | 0 => 0
  | k + 1 => moh w L σ g k + b2n (hun (mos w L σ g (k + 1)).1 (w 0 4))
theorem eaten_le {w : Nat → Nat → Nat} {L : List Nat} {σ : Nat → Nat} : eaten w L σ ≤ 198 := by
  have m0 : meal w L σ 0 ≤ 99 := Nat.le_trans (Nat.min_le_left _ _) eat_le
  have m1 : meal w L σ 1 ≤ 99 := Nat.le_trans (Nat.min_le_left _ _) eat_le
  unfold eaten
  split <;> split <;> omega
theorem mo_bd {w : Nat → Nat → Nat} {L : List Nat} {σ : Nat → Nat} {g : Nat} (hw : WS w) (h : sbd σ) (hg : g < 2147483648) : ∀ k, (sbd (mos w L σ g k).1 ∧ (mos w L σ g k).2 < 2147483648) ∧ mov w L σ g k ≤ 6 * k ∧ moe w L σ g k ≤ 198 * k ∧ moh w L σ g k ≤ k
  | 0 => ⟨⟨h, hg⟩, Nat.le_refl _, Nat.le_refl _, Nat.le_refl _⟩
  | k + 1 => by
    obtain ⟨⟨h1, h2⟩, h3, h4, h5⟩ := mo_bd (L := L) hw h hg k
    have b1 := bearn_le (w := w) (σ := (mos w L σ g (k + 1)).1) (w 0 2)
    have b2 := hw.1.2.2.1
    have b3 := eaten_le (w := w) (L := L) (σ := stray w (mos w L σ g k).2 (mos w L σ g k).1)
    have b4 := b2n_le (hun (mos w L σ g (k + 1)).1 (w 0 4))
    refine ⟨⟨sbd_stp hw (sbd_stray hw h1), sgn_lt h2 _⟩, ?_, ?_, ?_⟩
    · show mov w L σ g k + bearn w (mos w L σ g (k + 1)).1 (w 0 2) ≤ _
      omega
    · show moe w L σ g k + eaten w L (stray w (mos w L σ g k).2 (mos w L σ g k).1) ≤ _
      omega
    · show moh w L σ g k + b2n (hun (mos w L σ g (k + 1)).1 (w 0 4)) ≤ _
      omega
set_option maxRecDepth 1000000 in
theorem sr_pc990_0 (d n : Nat) {t0 : en_H} {w : Nat → Nat → Nat} {L : List Nat} {σ : Nat → Nat} {e : Nat} {cl : en_L} {Q : en_O → Prop} (g0 : ai_HG ah_G t0) (hR : RW t0 w L) (hc : 0 < w 0 4) (k0 : ai_hv t0 399 990 = some (.inl (σ 0))) (k7 : ai_hv t0 399 997 = some (.inl (σ 7))) (k11 : ai_hv t0 399 1001 = some (.inl (σ 11))) (k13 : ai_hv t0 399 1003 = some (.inl (σ 13))) (h0 : σ 0 < 4294967296) (h7 : σ 7 ≤ 19998) (h11 : σ 11 ≤ 1) (h13 : σ 13 ≤ 63) (he : e ≤ 1000) (l0 : en_ld cl 0 = some (gx_r 383)) (l1 : en_ld cl 1 = some (.inl 990)) (l2 : en_ld cl 2 = some (.inl e)) (l3 : en_ld cl 3 = some (.inl 0)) (hQ : ∀ cl' t', ai_HG ah_G t' → (∀ c i, ¬ ((c = 399 ∧ (i = 1005 ∨ i = 997 ∨ i = 1003)) ∨ (c = 397 ∧ i < 3) ∨ c = 398) → ai_hv t' c i = ai_hv t0 c i) → ai_hv t' 399 1005 = some (.inl 0) → ai_hv t' 399 997 = some (.inl (σ 7 - meal w L σ 0)) → ai_hv t' 399 1003 = some (.inl (if σ 11 = 1 then fto w (σ 13) else 0)) → en_ld cl' 0 = some (gx_r 383) → en_ld cl' 1 = some (.inl 990) → en_ld cl' 2 = some (.inl (e + meal w L σ 0)) → en_ld cl' 3 = some (.inl 1) → en_ex none (en_u (d + 4)) (en_code 116) (fun _ => false) (4, cl', [], t', n, 0) Q) : en_ex none (en_u (d + 4)) (en_code 116) (fun _ => false) (4, cl, [], t0, n, 0) Q := by
  have kK := hR.1 4 (by first | decide | omega)
  have hK := hR.2.1.2.2.2.2.1
  have hea := eat_le (L := L) (me := w 2 0) (ti := σ 0) (ou := σ 11)
  have hml : meal w L σ 0 = min (eat L (w 2 0) (σ 0) (σ 11)) (σ 7) := rfl
  refine gx_ld (i := 3) (d := 0) (v := .inl 0) rfl (fun _ => rfl) l3 rfl rfl ?_
  refine gx_ld (i := 0) (d := 2) (v := gx_r 383) rfl (fun _ => rfl) l0 rfl rfl ?_
  obtain ⟨_, r21, rfl⟩ := sr_crews (d + 3) n g0 (kK)
  refine gx_call1 rfl rfl g0 rfl rfl r21 rfl ?_
  show en_ex _ _ _ _ (9, cl, [.inl (w 0 4), .inl 0], t0, n, 0) _
  refine gx_2f (c := .ge) rfl (by first | decide | omega) (by first | decide | omega) (show ¬ (w 0 4 ≤ 0) from by omega) rfl ?_
  refine gx_ld (i := 0) (d := 2) (v := gx_r 383) rfl (fun _ => rfl) l0 rfl rfl ?_
  refine gx_ref (c := 399) rfl g0 rfl rfl rfl rfl ?_
  refine gx_ld (i := 1) (d := 0) (v := .inl 990) rfl (fun _ => rfl) l1 rfl rfl ?_
  refine ex_go (S := (19, cl, [.inl 15, .inl 990, gx_r 399], t0, n, 0)) rfl (fun _ => rfl) rfl ?_
  refine ex_go (S := (20, cl, [.inl 1005, gx_r 399], t0, n, 0)) rfl (fun _ => rfl) rfl ?_
  refine gx_ld (i := 3) (d := 0) (v := .inl 0) rfl (fun _ => rfl) l3 rfl rfl ?_
  refine ex_go (S := (22, cl, [.inl 1005, gx_r 399], t0, n, 0)) rfl (fun _ => rfl) rfl ?_
  refine ex_go (S := (23, cl, [.inl 0, .inl 1005, gx_r 399], t0, n, 0)) rfl (fun _ => rfl) rfl ?_
  refine gx_ap rfl (fun _ => rfl) g0 rfl rfl rfl (show 1005 < 1035 from by omega) rfl (ai_in_h (by first | decide | omega) (by first | decide | omega) (by first | decide | omega)) rfl (fun t122 g122 k122 e122 => ?_)
  have k23 : ai_hv t122 399 990 = some (.inl (σ 0)) := (e122 399 990 (by first | decide | omega)).trans k0
  have k24 : ai_hv t122 399 997 = some (.inl (σ 7)) := (e122 399 997 (by first | decide | omega)).trans k7
  have k25 : ai_hv t122 399 1001 = some (.inl (σ 11)) := (e122 399 1001 (by first | decide | omega)).trans k11
  have k26 : ai_hv t122 399 1003 = some (.inl (σ 13)) := (e122 399 1003 (by first | decide | omega)).trans k13
  refine gx_ld (i := 0) (d := 2) (v := gx_r 383) rfl (fun _ => rfl) l0 rfl rfl ?_
  refine gx_ld (i := 3) (d := 0) (v := .inl 0) rfl (fun _ => rfl) l3 rfl rfl ?_
  refine gx_ld (i := 0) (d := 2) (v := gx_r 383) rfl (fun _ => rfl) l0 rfl rfl ?_
  refine gx_ref (c := 399) rfl g122 rfl rfl rfl rfl ?_
  refine gx_ld (i := 1) (d := 0) (v := .inl 990) rfl (fun _ => rfl) l1 rfl rfl ?_
  refine ex_go (S := (32, cl, [.inl 0, .inl 990, gx_r 399, .inl 0, gx_r 383], t122, n, 0)) rfl (fun _ => rfl) rfl ?_
  refine ex_go (S := (33, cl, [.inl 990, gx_r 399, .inl 0, gx_r 383], t122, n, 0)) rfl (fun _ => rfl) rfl ?_
  refine gx_ag (v := .inl (σ 0)) (cb := fun c => Nat.beq c 0) rfl (fun _ => rfl) g122 rfl rfl k23 (by first | decide | omega) rfl ?_
  refine gx_ld (i := 0) (d := 2) (v := gx_r 383) rfl (fun _ => rfl) l0 rfl rfl ?_
  refine gx_ref (c := 399) rfl g122 rfl rfl rfl rfl ?_
  refine gx_ld (i := 1) (d := 0) (v := .inl 990) rfl (fun _ => rfl) l1 rfl rfl ?_
  refine ex_go (S := (41, cl, [.inl 11, .inl 990, gx_r 399, .inl (σ 0), .inl 0, gx_r 383], t122, n, 0)) rfl (fun _ => rfl) rfl ?_
  refine ex_go (S := (42, cl, [.inl 1001, gx_r 399, .inl (σ 0), .inl 0, gx_r 383], t122, n, 0)) rfl (fun _ => rfl) rfl ?_
  refine gx_ld (i := 3) (d := 0) (v := .inl 0) rfl (fun _ => rfl) l3 rfl rfl ?_
  refine ex_go (S := (44, cl, [.inl 1001, gx_r 399, .inl (σ 0), .inl 0, gx_r 383], t122, n, 0)) rfl (fun _ => rfl) rfl ?_
  refine gx_ag (v := .inl (σ 11)) (cb := fun c => Nat.beq c 0) rfl (fun _ => rfl) g122 rfl rfl k25 (by first | decide | omega) rfl ?_
  obtain ⟨_, r127, t127, rfl, g127, e127⟩ := sr_eats d n (c := 0) (ti := σ 0) (ou := σ 11) g122 (RW_keep hR (fun i hi => e122 389 i (by first | decide | omega)) (fun c i hc _ => e122 c i (by first | decide | omega))) hc h0 (by first | decide | omega)
  refine gx_call1 rfl rfl g122 rfl rfl r127 rfl ?_
  have k28 : ai_hv t127 399 990 = some (.inl (σ 0)) := (e127 399 990 (by first | decide | omega)).trans k23
  have k29 : ai_hv t127 399 997 = some (.inl (σ 7)) := (e127 399 997 (by first | decide | omega)).trans k24
  have k30 : ai_hv t127 399 1001 = some (.inl (σ 11)) := (e127 399 1001 (by first | decide | omega)).trans k25
  have k31 : ai_hv t127 399 1003 = some (.inl (σ 13)) := (e127 399 1003 (by first | decide | omega)).trans k26
  have k32 : ai_hv t127 399 1005 = some (.inl 0) := (e127 399 1005 (by first | decide | omega)).trans k122
  show en_ex _ _ _ _ (48, cl, [.inl (eat L (w 2 0) (σ 0) (σ 11))], t127, n, 0) _
  refine gx_sto (i := 4) (d := 0) rfl (fun _ => rfl) rfl rfl (fun l33 hl33 ml33 => ?_)
  have l33_0 : en_ld l33 0 = some (gx_r 383) := ml33 0 _ l0 rfl
  have l33_1 : en_ld l33 1 = some (.inl 990) := ml33 1 _ l1 rfl
  have l33_2 : en_ld l33 2 = some (.inl e) := ml33 2 _ l2 rfl
  have l33_3 : en_ld l33 3 = some (.inl 0) := ml33 3 _ l3 rfl
  refine gx_ld (i := 4) (d := 0) (v := .inl (eat L (w 2 0) (σ 0) (σ 11))) rfl (fun _ => rfl) hl33 rfl rfl ?_
  refine gx_ld (i := 0) (d := 2) (v := gx_r 383) rfl (fun _ => rfl) l33_0 rfl rfl ?_
  refine gx_ref (c := 399) rfl g127 rfl rfl rfl rfl ?_
  refine gx_ld (i := 1) (d := 0) (v := .inl 990) rfl (fun _ => rfl) l33_1 rfl rfl ?_
  refine ex_go (S := (59, l33, [.inl 7, .inl 990, gx_r 399, .inl (eat L (w 2 0) (σ 0) (σ 11))], t127, n, 0)) rfl (fun _ => rfl) rfl ?_
  refine ex_go (S := (60, l33, [.inl 997, gx_r 399, .inl (eat L (w 2 0) (σ 0) (σ 11))], t127, n, 0)) rfl (fun _ => rfl) rfl ?_
  refine gx_ld (i := 3) (d := 0) (v := .inl 0) rfl (fun _ => rfl) l33_3 rfl rfl ?_
  refine ex_go (S := (62, l33, [.inl 997, gx_r 399, .inl (eat L (w 2 0) (σ 0) (σ 11))], t127, n, 0)) rfl (fun _ => rfl) rfl ?_
  refine gx_ag (v := .inl (σ 7)) (cb := fun c => Nat.beq c 0) rfl (fun _ => rfl) g127 rfl rfl k29 (by first | decide | omega) rfl ?_
  by_cases hc34 : eat L (w 2 0) (σ 0) (σ 11) ≤ σ 7
  · refine gx_2t (c := .le) rfl (by first | decide | omega) (by first | decide | omega) hc34 rfl ?_
    refine gx_ld (i := 4) (d := 0) (v := .inl (eat L (w 2 0) (σ 0) (σ 11))) rfl (fun _ => rfl) hl33 rfl rfl ?_
    refine gx_sto (i := 4) (d := 0) rfl (fun _ => rfl) rfl rfl (fun l35 hl35 ml35 => ?_)
    have l35_0 : en_ld l35 0 = some (gx_r 383) := ml35 0 _ l33_0 rfl
    have l35_1 : en_ld l35 1 = some (.inl 990) := ml35 1 _ l33_1 rfl
    have l35_2 : en_ld l35 2 = some (.inl e) := ml35 2 _ l33_2 rfl
    have l35_3 : en_ld l35 3 = some (.inl 0) := ml35 3 _ l33_3 rfl
    refine gx_ld (i := 0) (d := 2) (v := gx_r 383) rfl (fun _ => rfl) l35_0 rfl rfl ?_
    refine gx_ref (c := 399) rfl g127 rfl rfl rfl rfl ?_
    refine gx_ld (i := 1) (d := 0) (v := .inl 990) rfl (fun _ => rfl) l35_1 rfl rfl ?_
    refine ex_go (S := (91, l35, [.inl 7, .inl 990, gx_r 399], t127, n, 0)) rfl (fun _ => rfl) rfl ?_
    refine ex_go (S := (92, l35, [.inl 997, gx_r 399], t127, n, 0)) rfl (fun _ => rfl) rfl ?_
    refine gx_ld (i := 3) (d := 0) (v := .inl 0) rfl (fun _ => rfl) l35_3 rfl rfl ?_
    refine ex_go (S := (94, l35, [.inl 997, gx_r 399], t127, n, 0)) rfl (fun _ => rfl) rfl ?_
    refine ex_go (S := (95, l35, [.inl 997, gx_r 399, .inl 997, gx_r 399], t127, n, 0)) rfl (fun _ => rfl) rfl ?_
    refine gx_ag (v := .inl (σ 7)) (cb := fun c => Nat.beq c 0) rfl (fun _ => rfl) g127 rfl rfl k29 (by first | decide | omega) rfl ?_
    refine gx_ld (i := 4) (d := 0) (v := .inl (eat L (w 2 0) (σ 0) (σ 11))) rfl (fun _ => rfl) hl35 rfl rfl ?_
    refine gx_isub rfl (by first | decide | omega) (by first | decide | omega) rfl ?_
    refine gx_ap rfl (fun _ => rfl) g127 rfl rfl rfl (show 997 < 1035 from by omega) rfl (ai_in_h (by first | decide | omega) (by first | decide | omega) (by first | decide | omega)) rfl (fun t136 g136 k136 e136 => ?_)
    have k37 : ai_hv t136 399 990 = some (.inl (σ 0)) := (e136 399 990 (by first | decide | omega)).trans k28
    have k38 : ai_hv t136 399 1001 = some (.inl (σ 11)) := (e136 399 1001 (by first | decide | omega)).trans k30
    have k39 : ai_hv t136 399 1003 = some (.inl (σ 13)) := (e136 399 1003 (by first | decide | omega)).trans k31
    have k40 : ai_hv t136 399 1005 = some (.inl 0) := (e136 399 1005 (by first | decide | omega)).trans k32
    refine gx_ld (i := 2) (d := 0) (v := .inl e) rfl (fun _ => rfl) l35_2 rfl rfl ?_
    refine gx_ld (i := 4) (d := 0) (v := .inl (eat L (w 2 0) (σ 0) (σ 11))) rfl (fun _ => rfl) hl35 rfl rfl ?_
    refine ex_iadd rfl (by first | decide | omega) rfl ?_
    refine gx_sto (i := 2) (d := 0) rfl (fun _ => rfl) rfl rfl (fun l41 hl41 ml41 => ?_)
    have l41_0 : en_ld l41 0 = some (gx_r 383) := ml41 0 _ l35_0 rfl
    have l41_1 : en_ld l41 1 = some (.inl 990) := ml41 1 _ l35_1 rfl
    have l41_3 : en_ld l41 3 = some (.inl 0) := ml41 3 _ l35_3 rfl
    have l41_4 : en_ld l41 4 = some (.inl (eat L (w 2 0) (σ 0) (σ 11))) := ml41 4 _ hl35 rfl
    refine gx_ld (i := 0) (d := 2) (v := gx_r 383) rfl (fun _ => rfl) l41_0 rfl rfl ?_
    refine gx_ref (c := 399) rfl g136 rfl rfl rfl rfl ?_
    refine gx_ld (i := 1) (d := 0) (v := .inl 990) rfl (fun _ => rfl) l41_1 rfl rfl ?_
    refine ex_go (S := (112, l41, [.inl 13, .inl 990, gx_r 399], t136, n, 0)) rfl (fun _ => rfl) rfl ?_
    refine ex_go (S := (113, l41, [.inl 1003, gx_r 399], t136, n, 0)) rfl (fun _ => rfl) rfl ?_
    refine gx_ld (i := 3) (d := 0) (v := .inl 0) rfl (fun _ => rfl) l41_3 rfl rfl ?_
    refine ex_go (S := (115, l41, [.inl 1003, gx_r 399], t136, n, 0)) rfl (fun _ => rfl) rfl ?_
    refine gx_ld (i := 0) (d := 2) (v := gx_r 383) rfl (fun _ => rfl) l41_0 rfl rfl ?_
    refine gx_ref (c := 399) rfl g136 rfl rfl rfl rfl ?_
    refine gx_ld (i := 1) (d := 0) (v := .inl 990) rfl (fun _ => rfl) l41_1 rfl rfl ?_
    refine ex_go (S := (122, l41, [.inl 11, .inl 990, gx_r 399, .inl 1003, gx_r 399], t136, n, 0)) rfl (fun _ => rfl) rfl ?_
    refine ex_go (S := (123, l41, [.inl 1001, gx_r 399, .inl 1003, gx_r 399], t136, n, 0)) rfl (fun _ => rfl) rfl ?_
    refine gx_ld (i := 3) (d := 0) (v := .inl 0) rfl (fun _ => rfl) l41_3 rfl rfl ?_
    refine ex_go (S := (125, l41, [.inl 1001, gx_r 399, .inl 1003, gx_r 399], t136, n, 0)) rfl (fun _ => rfl) rfl ?_
    refine gx_ag (v := .inl (σ 11)) (cb := fun c => Nat.beq c 0) rfl (fun _ => rfl) g136 rfl rfl k38 (by first | decide | omega) rfl ?_
    refine ex_go (S := (127, l41, [.inl 1, .inl (σ 11), .inl 1003, gx_r 399], t136, n, 0)) rfl (fun _ => rfl) rfl ?_
    by_cases hc42 : σ 11 ≠ 1
    · refine gx_2t (c := .ne) rfl (by first | decide | omega) (by first | decide | omega) hc42 rfl ?_
      refine ex_go (S := (149, l41, [.inl 0, .inl 1003, gx_r 399], t136, n, 0)) rfl (fun _ => rfl) rfl ?_
      refine gx_ap rfl (fun _ => rfl) g136 rfl rfl rfl (show 1003 < 1035 from by omega) rfl (ai_in_h (by first | decide | omega) (by first | decide | omega) (by first | decide | omega)) rfl (fun t143 g143 k143 e143 => ?_)
      have k44 : ai_hv t143 399 990 = some (.inl (σ 0)) := (e143 399 990 (by first | decide | omega)).trans k37
      have k45 : ai_hv t143 399 1001 = some (.inl (σ 11)) := (e143 399 1001 (by first | decide | omega)).trans k38
      have k46 : ai_hv t143 399 1005 = some (.inl 0) := (e143 399 1005 (by first | decide | omega)).trans k40
      have k47 : ai_hv t143 399 997 = some (.inl ((σ 7) - (eat L (w 2 0) (σ 0) (σ 11)))) := (e143 399 997 (by first | decide | omega)).trans k136
      refine gx_incS (i := 3) (a := 0) (x := 1) rfl (fun _ => rfl) l41_3 (by first | decide | omega) rfl (fun l48 hl48 ml48 => ?_)
      have l48_0 : en_ld l48 0 = some (gx_r 383) := ml48 0 _ l41_0 rfl
      have l48_1 : en_ld l48 1 = some (.inl 990) := ml48 1 _ l41_1 rfl
      have l48_4 : en_ld l48 4 = some (.inl (eat L (w 2 0) (σ 0) (σ 11))) := ml48 4 _ l41_4 rfl
      have l48_2 : en_ld l48 2 = some (.inl (e + (eat L (w 2 0) (σ 0) (σ 11)))) := ml48 2 _ hl41 rfl
      refine ex_go (S := (4, l48, [], t143, n, 0)) rfl (fun _ => rfl) rfl ?_
      have hm9 : meal w L σ 0 = eat L (w 2 0) (σ 0) (σ 11) := by omega
      exact hQ _ t143 g143 (fun c i h => (e143 c i (by first | decide | omega)).trans ((e136 c i (by first | decide | omega)).trans ((e127 c i (by first | decide | omega)).trans (e122 c i (by first | decide | omega))))) k46 (by rw [hm9]; exact k47) (by rw [if_neg (by first | decide | omega)]; exact k143) l48_0 l48_1 (by rw [hm9]; exact l48_2) hl48
    · refine gx_2f (c := .ne) rfl (by first | decide | omega) (by first | decide | omega) hc42 rfl ?_
      refine gx_ld (i := 0) (d := 2) (v := gx_r 383) rfl (fun _ => rfl) l41_0 rfl rfl ?_
      refine gx_ld (i := 0) (d := 2) (v := gx_r 383) rfl (fun _ => rfl) l41_0 rfl rfl ?_
      refine gx_ref (c := 399) rfl g136 rfl rfl rfl rfl ?_
      refine gx_ld (i := 1) (d := 0) (v := .inl 990) rfl (fun _ => rfl) l41_1 rfl rfl ?_
      refine ex_go (S := (138, l41, [.inl 13, .inl 990, gx_r 399, gx_r 383, .inl 1003, gx_r 399], t136, n, 0)) rfl (fun _ => rfl) rfl ?_
      refine ex_go (S := (139, l41, [.inl 1003, gx_r 399, gx_r 383, .inl 1003, gx_r 399], t136, n, 0)) rfl (fun _ => rfl) rfl ?_
      refine gx_ld (i := 3) (d := 0) (v := .inl 0) rfl (fun _ => rfl) l41_3 rfl rfl ?_
      refine ex_go (S := (141, l41, [.inl 1003, gx_r 399, gx_r 383, .inl 1003, gx_r 399], t136, n, 0)) rfl (fun _ => rfl) rfl ?_
      refine gx_ag (v := .inl (σ 13)) (cb := fun c => Nat.beq c 0) rfl (fun _ => rfl) g136 rfl rfl k39 (by first | decide | omega) rfl ?_
      obtain ⟨_, r49, rfl⟩ := sr_flowsTo (d + 1) n (p := (σ 13)) g136 (RW_keep hR (fun i hi => (e136 389 i (by first | decide | omega)).trans ((e127 389 i (by first | decide | omega)).trans (e122 389 i (by first | decide | omega)))) (fun c i hc _ => (e136 c i (by first | decide | omega)).trans ((e127 c i (by first | decide | omega)).trans (e122 c i (by first | decide | omega))))) (by first | decide | omega)
      have hfl := nb_lt (O := w 0 0) (D := w 0 1) (p := σ 13) (s := w 1 (σ 13)) (by first | decide | omega) hR.2.1.1 hR.2.1.2.1
      have hfl : fto w (σ 13) < 64 := hfl
      refine gx_call1 rfl rfl g136 rfl rfl r49 rfl ?_
      show en_ex _ _ _ _ (145, l41, [.inl (fto w (σ 13)), .inl 1003, gx_r 399], t136, n, 0) _
      refine ex_go (S := (149, l41, [.inl (fto w (σ 13)), .inl 1003, gx_r 399], t136, n, 0)) rfl (fun _ => rfl) rfl ?_
      refine gx_ap rfl (fun _ => rfl) g136 rfl rfl rfl (show 1003 < 1035 from by omega) rfl (ai_in_h (by first | decide | omega) (by first | decide | omega) (by first | decide | omega)) rfl (fun t150 g150 k150 e150 => ?_)
      have k51 : ai_hv t150 399 990 = some (.inl (σ 0)) := (e150 399 990 (by first | decide | omega)).trans k37
      have k52 : ai_hv t150 399 1001 = some (.inl (σ 11)) := (e150 399 1001 (by first | decide | omega)).trans k38
      have k53 : ai_hv t150 399 1005 = some (.inl 0) := (e150 399 1005 (by first | decide | omega)).trans k40
      have k54 : ai_hv t150 399 997 = some (.inl ((σ 7) - (eat L (w 2 0) (σ 0) (σ 11)))) := (e150 399 997 (by first | decide | omega)).trans k136
      refine gx_incS (i := 3) (a := 0) (x := 1) rfl (fun _ => rfl) l41_3 (by first | decide | omega) rfl (fun l55 hl55 ml55 => ?_)
      have l55_0 : en_ld l55 0 = some (gx_r 383) := ml55 0 _ l41_0 rfl
      have l55_1 : en_ld l55 1 = some (.inl 990) := ml55 1 _ l41_1 rfl
      have l55_4 : en_ld l55 4 = some (.inl (eat L (w 2 0) (σ 0) (σ 11))) := ml55 4 _ l41_4 rfl
      have l55_2 : en_ld l55 2 = some (.inl (e + (eat L (w 2 0) (σ 0) (σ 11)))) := ml55 2 _ hl41 rfl
      refine ex_go (S := (4, l55, [], t150, n, 0)) rfl (fun _ => rfl) rfl ?_
      have hm9 : meal w L σ 0 = eat L (w 2 0) (σ 0) (σ 11) := by omega
      exact hQ _ t150 g150 (fun c i h => (e150 c i (by first | decide | omega)).trans ((e136 c i (by first | decide | omega)).trans ((e127 c i (by first | decide | omega)).trans (e122 c i (by first | decide | omega))))) k53 (by rw [hm9]; exact k54) (by rw [if_pos (by first | decide | omega)]; exact k150) l55_0 l55_1 (by rw [hm9]; exact l55_2) hl55
  · refine gx_2f (c := .le) rfl (by first | decide | omega) (by first | decide | omega) hc34 rfl ?_
    refine gx_ld (i := 0) (d := 2) (v := gx_r 383) rfl (fun _ => rfl) l33_0 rfl rfl ?_
    refine gx_ref (c := 399) rfl g127 rfl rfl rfl rfl ?_
    refine gx_ld (i := 1) (d := 0) (v := .inl 990) rfl (fun _ => rfl) l33_1 rfl rfl ?_
    refine ex_go (S := (73, l33, [.inl 7, .inl 990, gx_r 399], t127, n, 0)) rfl (fun _ => rfl) rfl ?_
    refine ex_go (S := (74, l33, [.inl 997, gx_r 399], t127, n, 0)) rfl (fun _ => rfl) rfl ?_
    refine gx_ld (i := 3) (d := 0) (v := .inl 0) rfl (fun _ => rfl) l33_3 rfl rfl ?_
    refine ex_go (S := (76, l33, [.inl 997, gx_r 399], t127, n, 0)) rfl (fun _ => rfl) rfl ?_
    refine gx_ag (v := .inl (σ 7)) (cb := fun c => Nat.beq c 0) rfl (fun _ => rfl) g127 rfl rfl k29 (by first | decide | omega) rfl ?_
    refine ex_go (S := (82, l33, [.inl (σ 7)], t127, n, 0)) rfl (fun _ => rfl) rfl ?_
    refine gx_sto (i := 4) (d := 0) rfl (fun _ => rfl) rfl rfl (fun l56 hl56 ml56 => ?_)
    have l56_0 : en_ld l56 0 = some (gx_r 383) := ml56 0 _ l33_0 rfl
    have l56_1 : en_ld l56 1 = some (.inl 990) := ml56 1 _ l33_1 rfl
    have l56_2 : en_ld l56 2 = some (.inl e) := ml56 2 _ l33_2 rfl
    have l56_3 : en_ld l56 3 = some (.inl 0) := ml56 3 _ l33_3 rfl
    refine gx_ld (i := 0) (d := 2) (v := gx_r 383) rfl (fun _ => rfl) l56_0 rfl rfl ?_
    refine gx_ref (c := 399) rfl g127 rfl rfl rfl rfl ?_
    refine gx_ld (i := 1) (d := 0) (v := .inl 990) rfl (fun _ => rfl) l56_1 rfl rfl ?_
    refine ex_go (S := (91, l56, [.inl 7, .inl 990, gx_r 399], t127, n, 0)) rfl (fun _ => rfl) rfl ?_
    refine ex_go (S := (92, l56, [.inl 997, gx_r 399], t127, n, 0)) rfl (fun _ => rfl) rfl ?_
    refine gx_ld (i := 3) (d := 0) (v := .inl 0) rfl (fun _ => rfl) l56_3 rfl rfl ?_
    refine ex_go (S := (94, l56, [.inl 997, gx_r 399], t127, n, 0)) rfl (fun _ => rfl) rfl ?_
    refine ex_go (S := (95, l56, [.inl 997, gx_r 399, .inl 997, gx_r 399], t127, n, 0)) rfl (fun _ => rfl) rfl ?_
    refine gx_ag (v := .inl (σ 7)) (cb := fun c => Nat.beq c 0) rfl (fun _ => rfl) g127 rfl rfl k29 (by first | decide | omega) rfl ?_
    refine gx_ld (i := 4) (d := 0) (v := .inl (σ 7)) rfl (fun _ => rfl) hl56 rfl rfl ?_
    refine gx_isub rfl (by first | decide | omega) (by first | decide | omega) rfl ?_
    refine gx_ap rfl (fun _ => rfl) g127 rfl rfl rfl (show 997 < 1035 from by omega) rfl (ai_in_h (by first | decide | omega) (by first | decide | omega) (by first | decide | omega)) rfl (fun t157 g157 k157 e157 => ?_)
    have k58 : ai_hv t157 399 990 = some (.inl (σ 0)) := (e157 399 990 (by first | decide | omega)).trans k28
    have k59 : ai_hv t157 399 1001 = some (.inl (σ 11)) := (e157 399 1001 (by first | decide | omega)).trans k30
    have k60 : ai_hv t157 399 1003 = some (.inl (σ 13)) := (e157 399 1003 (by first | decide | omega)).trans k31
    have k61 : ai_hv t157 399 1005 = some (.inl 0) := (e157 399 1005 (by first | decide | omega)).trans k32
    refine gx_ld (i := 2) (d := 0) (v := .inl e) rfl (fun _ => rfl) l56_2 rfl rfl ?_
    refine gx_ld (i := 4) (d := 0) (v := .inl (σ 7)) rfl (fun _ => rfl) hl56 rfl rfl ?_
    refine ex_iadd rfl (by first | decide | omega) rfl ?_
    refine gx_sto (i := 2) (d := 0) rfl (fun _ => rfl) rfl rfl (fun l62 hl62 ml62 => ?_)
    have l62_0 : en_ld l62 0 = some (gx_r 383) := ml62 0 _ l56_0 rfl
    have l62_1 : en_ld l62 1 = some (.inl 990) := ml62 1 _ l56_1 rfl
    have l62_3 : en_ld l62 3 = some (.inl 0) := ml62 3 _ l56_3 rfl
    have l62_4 : en_ld l62 4 = some (.inl (σ 7)) := ml62 4 _ hl56 rfl
    refine gx_ld (i := 0) (d := 2) (v := gx_r 383) rfl (fun _ => rfl) l62_0 rfl rfl ?_
    refine gx_ref (c := 399) rfl g157 rfl rfl rfl rfl ?_
    refine gx_ld (i := 1) (d := 0) (v := .inl 990) rfl (fun _ => rfl) l62_1 rfl rfl ?_
    refine ex_go (S := (112, l62, [.inl 13, .inl 990, gx_r 399], t157, n, 0)) rfl (fun _ => rfl) rfl ?_
    refine ex_go (S := (113, l62, [.inl 1003, gx_r 399], t157, n, 0)) rfl (fun _ => rfl) rfl ?_
    refine gx_ld (i := 3) (d := 0) (v := .inl 0) rfl (fun _ => rfl) l62_3 rfl rfl ?_
    refine ex_go (S := (115, l62, [.inl 1003, gx_r 399], t157, n, 0)) rfl (fun _ => rfl) rfl ?_
    refine gx_ld (i := 0) (d := 2) (v := gx_r 383) rfl (fun _ => rfl) l62_0 rfl rfl ?_
    refine gx_ref (c := 399) rfl g157 rfl rfl rfl rfl ?_
    refine gx_ld (i := 1) (d := 0) (v := .inl 990) rfl (fun _ => rfl) l62_1 rfl rfl ?_
    refine ex_go (S := (122, l62, [.inl 11, .inl 990, gx_r 399, .inl 1003, gx_r 399], t157, n, 0)) rfl (fun _ => rfl) rfl ?_
    refine ex_go (S := (123, l62, [.inl 1001, gx_r 399, .inl 1003, gx_r 399], t157, n, 0)) rfl (fun _ => rfl) rfl ?_
    refine gx_ld (i := 3) (d := 0) (v := .inl 0) rfl (fun _ => rfl) l62_3 rfl rfl ?_
    refine ex_go (S := (125, l62, [.inl 1001, gx_r 399, .inl 1003, gx_r 399], t157, n, 0)) rfl (fun _ => rfl) rfl ?_
    refine gx_ag (v := .inl (σ 11)) (cb := fun c => Nat.beq c 0) rfl (fun _ => rfl) g157 rfl rfl k59 (by first | decide | omega) rfl ?_
    refine ex_go (S := (127, l62, [.inl 1, .inl (σ 11), .inl 1003, gx_r 399], t157, n, 0)) rfl (fun _ => rfl) rfl ?_
    by_cases hc63 : σ 11 ≠ 1
    · refine gx_2t (c := .ne) rfl (by first | decide | omega) (by first | decide | omega) hc63 rfl ?_
      refine ex_go (S := (149, l62, [.inl 0, .inl 1003, gx_r 399], t157, n, 0)) rfl (fun _ => rfl) rfl ?_
      refine gx_ap rfl (fun _ => rfl) g157 rfl rfl rfl (show 1003 < 1035 from by omega) rfl (ai_in_h (by first | decide | omega) (by first | decide | omega) (by first | decide | omega)) rfl (fun t164 g164 k164 e164 => ?_)
      have k65 : ai_hv t164 399 990 = some (.inl (σ 0)) := (e164 399 990 (by first | decide | omega)).trans k58
      have k66 : ai_hv t164 399 1001 = some (.inl (σ 11)) := (e164 399 1001 (by first | decide | omega)).trans k59
      have k67 : ai_hv t164 399 1005 = some (.inl 0) := (e164 399 1005 (by first | decide | omega)).trans k61
      have k68 : ai_hv t164 399 997 = some (.inl ((σ 7) - (σ 7))) := (e164 399 997 (by first | decide | omega)).trans k157
      refine gx_incS (i := 3) (a := 0) (x := 1) rfl (fun _ => rfl) l62_3 (by first | decide | omega) rfl (fun l69 hl69 ml69 => ?_)
      have l69_0 : en_ld l69 0 = some (gx_r 383) := ml69 0 _ l62_0 rfl
      have l69_1 : en_ld l69 1 = some (.inl 990) := ml69 1 _ l62_1 rfl
      have l69_4 : en_ld l69 4 = some (.inl (σ 7)) := ml69 4 _ l62_4 rfl
      have l69_2 : en_ld l69 2 = some (.inl (e + (σ 7))) := ml69 2 _ hl62 rfl
      refine ex_go (S := (4, l69, [], t164, n, 0)) rfl (fun _ => rfl) rfl ?_
      have hm9 : meal w L σ 0 = σ 7 := by omega
      exact hQ _ t164 g164 (fun c i h => (e164 c i (by first | decide | omega)).trans ((e157 c i (by first | decide | omega)).trans ((e127 c i (by first | decide | omega)).trans (e122 c i (by first | decide | omega))))) k67 (by rw [hm9]; exact k68) (by rw [if_neg (by first | decide | omega)]; exact k164) l69_0 l69_1 (by rw [hm9]; exact l69_2) hl69
    · refine gx_2f (c := .ne) rfl (by first | decide | omega) (by first | decide | omega) hc63 rfl ?_
      refine gx_ld (i := 0) (d := 2) (v := gx_r 383) rfl (fun _ => rfl) l62_0 rfl rfl ?_
      refine gx_ld (i := 0) (d := 2) (v := gx_r 383) rfl (fun _ => rfl) l62_0 rfl rfl ?_
      refine gx_ref (c := 399) rfl g157 rfl rfl rfl rfl ?_
      refine gx_ld (i := 1) (d := 0) (v := .inl 990) rfl (fun _ => rfl) l62_1 rfl rfl ?_
      refine ex_go (S := (138, l62, [.inl 13, .inl 990, gx_r 399, gx_r 383, .inl 1003, gx_r 399], t157, n, 0)) rfl (fun _ => rfl) rfl ?_
      refine ex_go (S := (139, l62, [.inl 1003, gx_r 399, gx_r 383, .inl 1003, gx_r 399], t157, n, 0)) rfl (fun _ => rfl) rfl ?_
      refine gx_ld (i := 3) (d := 0) (v := .inl 0) rfl (fun _ => rfl) l62_3 rfl rfl ?_
      refine ex_go (S := (141, l62, [.inl 1003, gx_r 399, gx_r 383, .inl 1003, gx_r 399], t157, n, 0)) rfl (fun _ => rfl) rfl ?_
      refine gx_ag (v := .inl (σ 13)) (cb := fun c => Nat.beq c 0) rfl (fun _ => rfl) g157 rfl rfl k60 (by first | decide | omega) rfl ?_
      obtain ⟨_, r70, rfl⟩ := sr_flowsTo (d + 1) n (p := (σ 13)) g157 (RW_keep hR (fun i hi => (e157 389 i (by first | decide | omega)).trans ((e127 389 i (by first | decide | omega)).trans (e122 389 i (by first | decide | omega)))) (fun c i hc _ => (e157 c i (by first | decide | omega)).trans ((e127 c i (by first | decide | omega)).trans (e122 c i (by first | decide | omega))))) (by first | decide | omega)
      have hfl := nb_lt (O := w 0 0) (D := w 0 1) (p := σ 13) (s := w 1 (σ 13)) (by first | decide | omega) hR.2.1.1 hR.2.1.2.1
      have hfl : fto w (σ 13) < 64 := hfl
      refine gx_call1 rfl rfl g157 rfl rfl r70 rfl ?_
      show en_ex _ _ _ _ (145, l62, [.inl (fto w (σ 13)), .inl 1003, gx_r 399], t157, n, 0) _
      refine ex_go (S := (149, l62, [.inl (fto w (σ 13)), .inl 1003, gx_r 399], t157, n, 0)) rfl (fun _ => rfl) rfl ?_
      refine gx_ap rfl (fun _ => rfl) g157 rfl rfl rfl (show 1003 < 1035 from by omega) rfl (ai_in_h (by first | decide | omega) (by first | decide | omega) (by first | decide | omega)) rfl (fun t171 g171 k171 e171 => ?_)
      have k72 : ai_hv t171 399 990 = some (.inl (σ 0)) := (e171 399 990 (by first | decide | omega)).trans k58
      have k73 : ai_hv t171 399 1001 = some (.inl (σ 11)) := (e171 399 1001 (by first | decide | omega)).trans k59
      have k74 : ai_hv t171 399 1005 = some (.inl 0) := (e171 399 1005 (by first | decide | omega)).trans k61
      have k75 : ai_hv t171 399 997 = some (.inl ((σ 7) - (σ 7))) := (e171 399 997 (by first | decide | omega)).trans k157
      refine gx_incS (i := 3) (a := 0) (x := 1) rfl (fun _ => rfl) l62_3 (by first | decide | omega) rfl (fun l76 hl76 ml76 => ?_)
      have l76_0 : en_ld l76 0 = some (gx_r 383) := ml76 0 _ l62_0 rfl
      have l76_1 : en_ld l76 1 = some (.inl 990) := ml76 1 _ l62_1 rfl
      have l76_4 : en_ld l76 4 = some (.inl (σ 7)) := ml76 4 _ l62_4 rfl
      have l76_2 : en_ld l76 2 = some (.inl (e + (σ 7))) := ml76 2 _ hl62 rfl
      refine ex_go (S := (4, l76, [], t171, n, 0)) rfl (fun _ => rfl) rfl ?_
      have hm9 : meal w L σ 0 = σ 7 := by omega
      exact hQ _ t171 g171 (fun c i h => (e171 c i (by first | decide | omega)).trans ((e157 c i (by first | decide | omega)).trans ((e127 c i (by first | decide | omega)).trans (e122 c i (by first | decide | omega))))) k74 (by rw [hm9]; exact k75) (by rw [if_pos (by first | decide | omega)]; exact k171) l76_0 l76_1 (by rw [hm9]; exact l76_2) hl76
set_option maxRecDepth 1000000 in
theorem sr_pc990_1 (d n : Nat) {t0 : en_H} {w : Nat → Nat → Nat} {L : List Nat} {σ : Nat → Nat} {e : Nat} {cl : en_L} {Q : en_O → Prop} (g0 : ai_HG ah_G t0) (hR : RW t0 w L) (hc : 1 < w 0 4) (k0 : ai_hv t0 399 990 = some (.inl (σ 0))) (k7 : ai_hv t0 399 998 = some (.inl (σ 8))) (k11 : ai_hv t0 399 1002 = some (.inl (σ 12))) (k13 : ai_hv t0 399 1004 = some (.inl (σ 14))) (h0 : σ 0 < 4294967296) (h7 : σ 8 ≤ 19998) (h11 : σ 12 ≤ 1) (h13 : σ 14 ≤ 63) (he : e ≤ 1000) (l0 : en_ld cl 0 = some (gx_r 383)) (l1 : en_ld cl 1 = some (.inl 990)) (l2 : en_ld cl 2 = some (.inl e)) (l3 : en_ld cl 3 = some (.inl 1)) (hQ : ∀ cl' t', ai_HG ah_G t' → (∀ c i, ¬ ((c = 399 ∧ (i = 1006 ∨ i = 998 ∨ i = 1004)) ∨ (c = 397 ∧ i < 3) ∨ c = 398) → ai_hv t' c i = ai_hv t0 c i) → ai_hv t' 399 1006 = some (.inl 0) → ai_hv t' 399 998 = some (.inl (σ 8 - meal w L σ 1)) → ai_hv t' 399 1004 = some (.inl (if σ 12 = 1 then fto w (σ 14) else 0)) → en_ld cl' 0 = some (gx_r 383) → en_ld cl' 1 = some (.inl 990) → en_ld cl' 2 = some (.inl (e + meal w L σ 1)) → en_ld cl' 3 = some (.inl 2) → en_ex none (en_u (d + 4)) (en_code 116) (fun _ => false) (4, cl', [], t', n, 0) Q) : en_ex none (en_u (d + 4)) (en_code 116) (fun _ => false) (4, cl, [], t0, n, 0) Q := by
  have kK := hR.1 4 (by first | decide | omega)
  have hK := hR.2.1.2.2.2.2.1
  have hea := eat_le (L := L) (me := w 2 1) (ti := σ 0) (ou := σ 12)
  have hml : meal w L σ 1 = min (eat L (w 2 1) (σ 0) (σ 12)) (σ 8) := rfl
  refine gx_ld (i := 3) (d := 0) (v := .inl 1) rfl (fun _ => rfl) l3 rfl rfl ?_
  refine gx_ld (i := 0) (d := 2) (v := gx_r 383) rfl (fun _ => rfl) l0 rfl rfl ?_
  obtain ⟨_, r21, rfl⟩ := sr_crews (d + 3) n g0 (kK)
  refine gx_call1 rfl rfl g0 rfl rfl r21 rfl ?_
  show en_ex _ _ _ _ (9, cl, [.inl (w 0 4), .inl 1], t0, n, 0) _
  refine gx_2f (c := .ge) rfl (by first | decide | omega) (by first | decide | omega) (show ¬ (w 0 4 ≤ 1) from by omega) rfl ?_
  refine gx_ld (i := 0) (d := 2) (v := gx_r 383) rfl (fun _ => rfl) l0 rfl rfl ?_
  refine gx_ref (c := 399) rfl g0 rfl rfl rfl rfl ?_
  refine gx_ld (i := 1) (d := 0) (v := .inl 990) rfl (fun _ => rfl) l1 rfl rfl ?_
  refine ex_go (S := (19, cl, [.inl 15, .inl 990, gx_r 399], t0, n, 0)) rfl (fun _ => rfl) rfl ?_
  refine ex_go (S := (20, cl, [.inl 1005, gx_r 399], t0, n, 0)) rfl (fun _ => rfl) rfl ?_
  refine gx_ld (i := 3) (d := 0) (v := .inl 1) rfl (fun _ => rfl) l3 rfl rfl ?_
  refine ex_go (S := (22, cl, [.inl 1006, gx_r 399], t0, n, 0)) rfl (fun _ => rfl) rfl ?_
  refine ex_go (S := (23, cl, [.inl 0, .inl 1006, gx_r 399], t0, n, 0)) rfl (fun _ => rfl) rfl ?_
  refine gx_ap rfl (fun _ => rfl) g0 rfl rfl rfl (show 1006 < 1035 from by omega) rfl (ai_in_h (by first | decide | omega) (by first | decide | omega) (by first | decide | omega)) rfl (fun t122 g122 k122 e122 => ?_)
  have k23 : ai_hv t122 399 990 = some (.inl (σ 0)) := (e122 399 990 (by first | decide | omega)).trans k0
  have k24 : ai_hv t122 399 998 = some (.inl (σ 8)) := (e122 399 998 (by first | decide | omega)).trans k7
  have k25 : ai_hv t122 399 1002 = some (.inl (σ 12)) := (e122 399 1002 (by first | decide | omega)).trans k11
  have k26 : ai_hv t122 399 1004 = some (.inl (σ 14)) := (e122 399 1004 (by first | decide | omega)).trans k13
  refine gx_ld (i := 0) (d := 2) (v := gx_r 383) rfl (fun _ => rfl) l0 rfl rfl ?_
  refine gx_ld (i := 3) (d := 0) (v := .inl 1) rfl (fun _ => rfl) l3 rfl rfl ?_
  refine gx_ld (i := 0) (d := 2) (v := gx_r 383) rfl (fun _ => rfl) l0 rfl rfl ?_
  refine gx_ref (c := 399) rfl g122 rfl rfl rfl rfl ?_
  refine gx_ld (i := 1) (d := 0) (v := .inl 990) rfl (fun _ => rfl) l1 rfl rfl ?_
  refine ex_go (S := (32, cl, [.inl 0, .inl 990, gx_r 399, .inl 1, gx_r 383], t122, n, 0)) rfl (fun _ => rfl) rfl ?_
  refine ex_go (S := (33, cl, [.inl 990, gx_r 399, .inl 1, gx_r 383], t122, n, 0)) rfl (fun _ => rfl) rfl ?_
  refine gx_ag (v := .inl (σ 0)) (cb := fun c => Nat.beq c 0) rfl (fun _ => rfl) g122 rfl rfl k23 (by first | decide | omega) rfl ?_
  refine gx_ld (i := 0) (d := 2) (v := gx_r 383) rfl (fun _ => rfl) l0 rfl rfl ?_
  refine gx_ref (c := 399) rfl g122 rfl rfl rfl rfl ?_
  refine gx_ld (i := 1) (d := 0) (v := .inl 990) rfl (fun _ => rfl) l1 rfl rfl ?_
  refine ex_go (S := (41, cl, [.inl 11, .inl 990, gx_r 399, .inl (σ 0), .inl 1, gx_r 383], t122, n, 0)) rfl (fun _ => rfl) rfl ?_
  refine ex_go (S := (42, cl, [.inl 1001, gx_r 399, .inl (σ 0), .inl 1, gx_r 383], t122, n, 0)) rfl (fun _ => rfl) rfl ?_
  refine gx_ld (i := 3) (d := 0) (v := .inl 1) rfl (fun _ => rfl) l3 rfl rfl ?_
  refine ex_go (S := (44, cl, [.inl 1002, gx_r 399, .inl (σ 0), .inl 1, gx_r 383], t122, n, 0)) rfl (fun _ => rfl) rfl ?_
  refine gx_ag (v := .inl (σ 12)) (cb := fun c => Nat.beq c 0) rfl (fun _ => rfl) g122 rfl rfl k25 (by first | decide | omega) rfl ?_
  obtain ⟨_, r127, t127, rfl, g127, e127⟩ := sr_eats d n (c := 1) (ti := σ 0) (ou := σ 12) g122 (RW_keep hR (fun i hi => e122 389 i (by first | decide | omega)) (fun c i hc _ => e122 c i (by first | decide | omega))) hc h0 (by first | decide | omega)
  refine gx_call1 rfl rfl g122 rfl rfl r127 rfl ?_
  have k28 : ai_hv t127 399 990 = some (.inl (σ 0)) := (e127 399 990 (by first | decide | omega)).trans k23
  have k29 : ai_hv t127 399 998 = some (.inl (σ 8)) := (e127 399 998 (by first | decide | omega)).trans k24
  have k30 : ai_hv t127 399 1002 = some (.inl (σ 12)) := (e127 399 1002 (by first | decide | omega)).trans k25
  have k31 : ai_hv t127 399 1004 = some (.inl (σ 14)) := (e127 399 1004 (by first | decide | omega)).trans k26
  have k32 : ai_hv t127 399 1006 = some (.inl 0) := (e127 399 1006 (by first | decide | omega)).trans k122
  show en_ex _ _ _ _ (48, cl, [.inl (eat L (w 2 1) (σ 0) (σ 12))], t127, n, 0) _
  refine gx_sto (i := 4) (d := 0) rfl (fun _ => rfl) rfl rfl (fun l33 hl33 ml33 => ?_)
  have l33_0 : en_ld l33 0 = some (gx_r 383) := ml33 0 _ l0 rfl
  have l33_1 : en_ld l33 1 = some (.inl 990) := ml33 1 _ l1 rfl
  have l33_2 : en_ld l33 2 = some (.inl e) := ml33 2 _ l2 rfl
  have l33_3 : en_ld l33 3 = some (.inl 1) := ml33 3 _ l3 rfl
  refine gx_ld (i := 4) (d := 0) (v := .inl (eat L (w 2 1) (σ 0) (σ 12))) rfl (fun _ => rfl) hl33 rfl rfl ?_
  refine gx_ld (i := 0) (d := 2) (v := gx_r 383) rfl (fun _ => rfl) l33_0 rfl rfl ?_
  refine gx_ref (c := 399) rfl g127 rfl rfl rfl rfl ?_
  refine gx_ld (i := 1) (d := 0) (v := .inl 990) rfl (fun _ => rfl) l33_1 rfl rfl ?_
  refine ex_go (S := (59, l33, [.inl 7, .inl 990, gx_r 399, .inl (eat L (w 2 1) (σ 0) (σ 12))], t127, n, 0)) rfl (fun _ => rfl) rfl ?_
  refine ex_go (S := (60, l33, [.inl 997, gx_r 399, .inl (eat L (w 2 1) (σ 0) (σ 12))], t127, n, 0)) rfl (fun _ => rfl) rfl ?_
  refine gx_ld (i := 3) (d := 0) (v := .inl 1) rfl (fun _ => rfl) l33_3 rfl rfl ?_
  refine ex_go (S := (62, l33, [.inl 998, gx_r 399, .inl (eat L (w 2 1) (σ 0) (σ 12))], t127, n, 0)) rfl (fun _ => rfl) rfl ?_
  refine gx_ag (v := .inl (σ 8)) (cb := fun c => Nat.beq c 0) rfl (fun _ => rfl) g127 rfl rfl k29 (by first | decide | omega) rfl ?_
  by_cases hc34 : eat L (w 2 1) (σ 0) (σ 12) ≤ σ 8
  · refine gx_2t (c := .le) rfl (by first | decide | omega) (by first | decide | omega) hc34 rfl ?_
    refine gx_ld (i := 4) (d := 0) (v := .inl (eat L (w 2 1) (σ 0) (σ 12))) rfl (fun _ => rfl) hl33 rfl rfl ?_
    refine gx_sto (i := 4) (d := 0) rfl (fun _ => rfl) rfl rfl (fun l35 hl35 ml35 => ?_)
    have l35_0 : en_ld l35 0 = some (gx_r 383) := ml35 0 _ l33_0 rfl
    have l35_1 : en_ld l35 1 = some (.inl 990) := ml35 1 _ l33_1 rfl
    have l35_2 : en_ld l35 2 = some (.inl e) := ml35 2 _ l33_2 rfl
    have l35_3 : en_ld l35 3 = some (.inl 1) := ml35 3 _ l33_3 rfl
    refine gx_ld (i := 0) (d := 2) (v := gx_r 383) rfl (fun _ => rfl) l35_0 rfl rfl ?_
    refine gx_ref (c := 399) rfl g127 rfl rfl rfl rfl ?_
    refine gx_ld (i := 1) (d := 0) (v := .inl 990) rfl (fun _ => rfl) l35_1 rfl rfl ?_
    refine ex_go (S := (91, l35, [.inl 7, .inl 990, gx_r 399], t127, n, 0)) rfl (fun _ => rfl) rfl ?_
    refine ex_go (S := (92, l35, [.inl 997, gx_r 399], t127, n, 0)) rfl (fun _ => rfl) rfl ?_
    refine gx_ld (i := 3) (d := 0) (v := .inl 1) rfl (fun _ => rfl) l35_3 rfl rfl ?_
    refine ex_go (S := (94, l35, [.inl 998, gx_r 399], t127, n, 0)) rfl (fun _ => rfl) rfl ?_
    refine ex_go (S := (95, l35, [.inl 998, gx_r 399, .inl 998, gx_r 399], t127, n, 0)) rfl (fun _ => rfl) rfl ?_
    refine gx_ag (v := .inl (σ 8)) (cb := fun c => Nat.beq c 0) rfl (fun _ => rfl) g127 rfl rfl k29 (by first | decide | omega) rfl ?_
    refine gx_ld (i := 4) (d := 0) (v := .inl (eat L (w 2 1) (σ 0) (σ 12))) rfl (fun _ => rfl) hl35 rfl rfl ?_
    refine gx_isub rfl (by first | decide | omega) (by first | decide | omega) rfl ?_
    refine gx_ap rfl (fun _ => rfl) g127 rfl rfl rfl (show 998 < 1035 from by omega) rfl (ai_in_h (by first | decide | omega) (by first | decide | omega) (by first | decide | omega)) rfl (fun t136 g136 k136 e136 => ?_)
    have k37 : ai_hv t136 399 990 = some (.inl (σ 0)) := (e136 399 990 (by first | decide | omega)).trans k28
    have k38 : ai_hv t136 399 1002 = some (.inl (σ 12)) := (e136 399 1002 (by first | decide | omega)).trans k30
    have k39 : ai_hv t136 399 1004 = some (.inl (σ 14)) := (e136 399 1004 (by first | decide | omega)).trans k31
    have k40 : ai_hv t136 399 1006 = some (.inl 0) := (e136 399 1006 (by first | decide | omega)).trans k32
    refine gx_ld (i := 2) (d := 0) (v := .inl e) rfl (fun _ => rfl) l35_2 rfl rfl ?_
    refine gx_ld (i := 4) (d := 0) (v := .inl (eat L (w 2 1) (σ 0) (σ 12))) rfl (fun _ => rfl) hl35 rfl rfl ?_
    refine ex_iadd rfl (by first | decide | omega) rfl ?_
    refine gx_sto (i := 2) (d := 0) rfl (fun _ => rfl) rfl rfl (fun l41 hl41 ml41 => ?_)
    have l41_0 : en_ld l41 0 = some (gx_r 383) := ml41 0 _ l35_0 rfl
    have l41_1 : en_ld l41 1 = some (.inl 990) := ml41 1 _ l35_1 rfl
    have l41_3 : en_ld l41 3 = some (.inl 1) := ml41 3 _ l35_3 rfl
    have l41_4 : en_ld l41 4 = some (.inl (eat L (w 2 1) (σ 0) (σ 12))) := ml41 4 _ hl35 rfl
    refine gx_ld (i := 0) (d := 2) (v := gx_r 383) rfl (fun _ => rfl) l41_0 rfl rfl ?_
    refine gx_ref (c := 399) rfl g136 rfl rfl rfl rfl ?_
    refine gx_ld (i := 1) (d := 0) (v := .inl 990) rfl (fun _ => rfl) l41_1 rfl rfl ?_
    refine ex_go (S := (112, l41, [.inl 13, .inl 990, gx_r 399], t136, n, 0)) rfl (fun _ => rfl) rfl ?_
    refine ex_go (S := (113, l41, [.inl 1003, gx_r 399], t136, n, 0)) rfl (fun _ => rfl) rfl ?_
    refine gx_ld (i := 3) (d := 0) (v := .inl 1) rfl (fun _ => rfl) l41_3 rfl rfl ?_
    refine ex_go (S := (115, l41, [.inl 1004, gx_r 399], t136, n, 0)) rfl (fun _ => rfl) rfl ?_
    refine gx_ld (i := 0) (d := 2) (v := gx_r 383) rfl (fun _ => rfl) l41_0 rfl rfl ?_
    refine gx_ref (c := 399) rfl g136 rfl rfl rfl rfl ?_
    refine gx_ld (i := 1) (d := 0) (v := .inl 990) rfl (fun _ => rfl) l41_1 rfl rfl ?_
    refine ex_go (S := (122, l41, [.inl 11, .inl 990, gx_r 399, .inl 1004, gx_r 399], t136, n, 0)) rfl (fun _ => rfl) rfl ?_
    refine ex_go (S := (123, l41, [.inl 1001, gx_r 399, .inl 1004, gx_r 399], t136, n, 0)) rfl (fun _ => rfl) rfl ?_
    refine gx_ld (i := 3) (d := 0) (v := .inl 1) rfl (fun _ => rfl) l41_3 rfl rfl ?_
    refine ex_go (S := (125, l41, [.inl 1002, gx_r 399, .inl 1004, gx_r 399], t136, n, 0)) rfl (fun _ => rfl) rfl ?_
    refine gx_ag (v := .inl (σ 12)) (cb := fun c => Nat.beq c 0) rfl (fun _ => rfl) g136 rfl rfl k38 (by first | decide | omega) rfl ?_
    refine ex_go (S := (127, l41, [.inl 1, .inl (σ 12), .inl 1004, gx_r 399], t136, n, 0)) rfl (fun _ => rfl) rfl ?_
    by_cases hc42 : σ 12 ≠ 1
    · refine gx_2t (c := .ne) rfl (by first | decide | omega) (by first | decide | omega) hc42 rfl ?_
      refine ex_go (S := (149, l41, [.inl 0, .inl 1004, gx_r 399], t136, n, 0)) rfl (fun _ => rfl) rfl ?_
      refine gx_ap rfl (fun _ => rfl) g136 rfl rfl rfl (show 1004 < 1035 from by omega) rfl (ai_in_h (by first | decide | omega) (by first | decide | omega) (by first | decide | omega)) rfl (fun t143 g143 k143 e143 => ?_)
      have k44 : ai_hv t143 399 990 = some (.inl (σ 0)) := (e143 399 990 (by first | decide | omega)).trans k37
      have k45 : ai_hv t143 399 1002 = some (.inl (σ 12)) := (e143 399 1002 (by first | decide | omega)).trans k38
      have k46 : ai_hv t143 399 1006 = some (.inl 0) := (e143 399 1006 (by first | decide | omega)).trans k40
      have k47 : ai_hv t143 399 998 = some (.inl ((σ 8) - (eat L (w 2 1) (σ 0) (σ 12)))) := (e143 399 998 (by first | decide | omega)).trans k136
      refine gx_incS (i := 3) (a := 1) (x := 1) rfl (fun _ => rfl) l41_3 (by first | decide | omega) rfl (fun l48 hl48 ml48 => ?_)
      have l48_0 : en_ld l48 0 = some (gx_r 383) := ml48 0 _ l41_0 rfl
      have l48_1 : en_ld l48 1 = some (.inl 990) := ml48 1 _ l41_1 rfl
      have l48_4 : en_ld l48 4 = some (.inl (eat L (w 2 1) (σ 0) (σ 12))) := ml48 4 _ l41_4 rfl
      have l48_2 : en_ld l48 2 = some (.inl (e + (eat L (w 2 1) (σ 0) (σ 12)))) := ml48 2 _ hl41 rfl
      refine ex_go (S := (4, l48, [], t143, n, 0)) rfl (fun _ => rfl) rfl ?_
      have hm9 : meal w L σ 1 = eat L (w 2 1) (σ 0) (σ 12) := by omega
      exact hQ _ t143 g143 (fun c i h => (e143 c i (by first | decide | omega)).trans ((e136 c i (by first | decide | omega)).trans ((e127 c i (by first | decide | omega)).trans (e122 c i (by first | decide | omega))))) k46 (by rw [hm9]; exact k47) (by rw [if_neg (by first | decide | omega)]; exact k143) l48_0 l48_1 (by rw [hm9]; exact l48_2) hl48
    · refine gx_2f (c := .ne) rfl (by first | decide | omega) (by first | decide | omega) hc42 rfl ?_
      refine gx_ld (i := 0) (d := 2) (v := gx_r 383) rfl (fun _ => rfl) l41_0 rfl rfl ?_
      refine gx_ld (i := 0) (d := 2) (v := gx_r 383) rfl (fun _ => rfl) l41_0 rfl rfl ?_
      refine gx_ref (c := 399) rfl g136 rfl rfl rfl rfl ?_
      refine gx_ld (i := 1) (d := 0) (v := .inl 990) rfl (fun _ => rfl) l41_1 rfl rfl ?_
      refine ex_go (S := (138, l41, [.inl 13, .inl 990, gx_r 399, gx_r 383, .inl 1004, gx_r 399], t136, n, 0)) rfl (fun _ => rfl) rfl ?_
      refine ex_go (S := (139, l41, [.inl 1003, gx_r 399, gx_r 383, .inl 1004, gx_r 399], t136, n, 0)) rfl (fun _ => rfl) rfl ?_
      refine gx_ld (i := 3) (d := 0) (v := .inl 1) rfl (fun _ => rfl) l41_3 rfl rfl ?_
      refine ex_go (S := (141, l41, [.inl 1004, gx_r 399, gx_r 383, .inl 1004, gx_r 399], t136, n, 0)) rfl (fun _ => rfl) rfl ?_
      refine gx_ag (v := .inl (σ 14)) (cb := fun c => Nat.beq c 0) rfl (fun _ => rfl) g136 rfl rfl k39 (by first | decide | omega) rfl ?_
      obtain ⟨_, r49, rfl⟩ := sr_flowsTo (d + 1) n (p := (σ 14)) g136 (RW_keep hR (fun i hi => (e136 389 i (by first | decide | omega)).trans ((e127 389 i (by first | decide | omega)).trans (e122 389 i (by first | decide | omega)))) (fun c i hc _ => (e136 c i (by first | decide | omega)).trans ((e127 c i (by first | decide | omega)).trans (e122 c i (by first | decide | omega))))) (by first | decide | omega)
      have hfl := nb_lt (O := w 0 0) (D := w 0 1) (p := σ 14) (s := w 1 (σ 14)) (by first | decide | omega) hR.2.1.1 hR.2.1.2.1
      have hfl : fto w (σ 14) < 64 := hfl
      refine gx_call1 rfl rfl g136 rfl rfl r49 rfl ?_
      show en_ex _ _ _ _ (145, l41, [.inl (fto w (σ 14)), .inl 1004, gx_r 399], t136, n, 0) _
      refine ex_go (S := (149, l41, [.inl (fto w (σ 14)), .inl 1004, gx_r 399], t136, n, 0)) rfl (fun _ => rfl) rfl ?_
      refine gx_ap rfl (fun _ => rfl) g136 rfl rfl rfl (show 1004 < 1035 from by omega) rfl (ai_in_h (by first | decide | omega) (by first | decide | omega) (by first | decide | omega)) rfl (fun t150 g150 k150 e150 => ?_)
      have k51 : ai_hv t150 399 990 = some (.inl (σ 0)) := (e150 399 990 (by first | decide | omega)).trans k37
      have k52 : ai_hv t150 399 1002 = some (.inl (σ 12)) := (e150 399 1002 (by first | decide | omega)).trans k38
      have k53 : ai_hv t150 399 1006 = some (.inl 0) := (e150 399 1006 (by first | decide | omega)).trans k40
      have k54 : ai_hv t150 399 998 = some (.inl ((σ 8) - (eat L (w 2 1) (σ 0) (σ 12)))) := (e150 399 998 (by first | decide | omega)).trans k136
      refine gx_incS (i := 3) (a := 1) (x := 1) rfl (fun _ => rfl) l41_3 (by first | decide | omega) rfl (fun l55 hl55 ml55 => ?_)
      have l55_0 : en_ld l55 0 = some (gx_r 383) := ml55 0 _ l41_0 rfl
      have l55_1 : en_ld l55 1 = some (.inl 990) := ml55 1 _ l41_1 rfl
      have l55_4 : en_ld l55 4 = some (.inl (eat L (w 2 1) (σ 0) (σ 12))) := ml55 4 _ l41_4 rfl
      have l55_2 : en_ld l55 2 = some (.inl (e + (eat L (w 2 1) (σ 0) (σ 12)))) := ml55 2 _ hl41 rfl
      refine ex_go (S := (4, l55, [], t150, n, 0)) rfl (fun _ => rfl) rfl ?_
      have hm9 : meal w L σ 1 = eat L (w 2 1) (σ 0) (σ 12) := by omega
      exact hQ _ t150 g150 (fun c i h => (e150 c i (by first | decide | omega)).trans ((e136 c i (by first | decide | omega)).trans ((e127 c i (by first | decide | omega)).trans (e122 c i (by first | decide | omega))))) k53 (by rw [hm9]; exact k54) (by rw [if_pos (by first | decide | omega)]; exact k150) l55_0 l55_1 (by rw [hm9]; exact l55_2) hl55
  · refine gx_2f (c := .le) rfl (by first | decide | omega) (by first | decide | omega) hc34 rfl ?_
    refine gx_ld (i := 0) (d := 2) (v := gx_r 383) rfl (fun _ => rfl) l33_0 rfl rfl ?_
    refine gx_ref (c := 399) rfl g127 rfl rfl rfl rfl ?_
    refine gx_ld (i := 1) (d := 0) (v := .inl 990) rfl (fun _ => rfl) l33_1 rfl rfl ?_
    refine ex_go (S := (73, l33, [.inl 7, .inl 990, gx_r 399], t127, n, 0)) rfl (fun _ => rfl) rfl ?_
    refine ex_go (S := (74, l33, [.inl 997, gx_r 399], t127, n, 0)) rfl (fun _ => rfl) rfl ?_
    refine gx_ld (i := 3) (d := 0) (v := .inl 1) rfl (fun _ => rfl) l33_3 rfl rfl ?_
    refine ex_go (S := (76, l33, [.inl 998, gx_r 399], t127, n, 0)) rfl (fun _ => rfl) rfl ?_
    refine gx_ag (v := .inl (σ 8)) (cb := fun c => Nat.beq c 0) rfl (fun _ => rfl) g127 rfl rfl k29 (by first | decide | omega) rfl ?_
    refine ex_go (S := (82, l33, [.inl (σ 8)], t127, n, 0)) rfl (fun _ => rfl) rfl ?_
    refine gx_sto (i := 4) (d := 0) rfl (fun _ => rfl) rfl rfl (fun l56 hl56 ml56 => ?_)
    have l56_0 : en_ld l56 0 = some (gx_r 383) := ml56 0 _ l33_0 rfl
    have l56_1 : en_ld l56 1 = some (.inl 990) := ml56 1 _ l33_1 rfl
    have l56_2 : en_ld l56 2 = some (.inl e) := ml56 2 _ l33_2 rfl
    have l56_3 : en_ld l56 3 = some (.inl 1) := ml56 3 _ l33_3 rfl
    refine gx_ld (i := 0) (d := 2) (v := gx_r 383) rfl (fun _ => rfl) l56_0 rfl rfl ?_
    refine gx_ref (c := 399) rfl g127 rfl rfl rfl rfl ?_
    refine gx_ld (i := 1) (d := 0) (v := .inl 990) rfl (fun _ => rfl) l56_1 rfl rfl ?_
    refine ex_go (S := (91, l56, [.inl 7, .inl 990, gx_r 399], t127, n, 0)) rfl (fun _ => rfl) rfl ?_
    refine ex_go (S := (92, l56, [.inl 997, gx_r 399], t127, n, 0)) rfl (fun _ => rfl) rfl ?_
    refine gx_ld (i := 3) (d := 0) (v := .inl 1) rfl (fun _ => rfl) l56_3 rfl rfl ?_
    refine ex_go (S := (94, l56, [.inl 998, gx_r 399], t127, n, 0)) rfl (fun _ => rfl) rfl ?_
    refine ex_go (S := (95, l56, [.inl 998, gx_r 399, .inl 998, gx_r 399], t127, n, 0)) rfl (fun _ => rfl) rfl ?_
    refine gx_ag (v := .inl (σ 8)) (cb := fun c => Nat.beq c 0) rfl (fun _ => rfl) g127 rfl rfl k29 (by first | decide | omega) rfl ?_
    refine gx_ld (i := 4) (d := 0) (v := .inl (σ 8)) rfl (fun _ => rfl) hl56 rfl rfl ?_
    refine gx_isub rfl (by first | decide | omega) (by first | decide | omega) rfl ?_
    refine gx_ap rfl (fun _ => rfl) g127 rfl rfl rfl (show 998 < 1035 from by omega) rfl (ai_in_h (by first | decide | omega) (by first | decide | omega) (by first | decide | omega)) rfl (fun t157 g157 k157 e157 => ?_)
    have k58 : ai_hv t157 399 990 = some (.inl (σ 0)) := (e157 399 990 (by first | decide | omega)).trans k28
    have k59 : ai_hv t157 399 1002 = some (.inl (σ 12)) := (e157 399 1002 (by first | decide | omega)).trans k30
    have k60 : ai_hv t157 399 1004 = some (.inl (σ 14)) := (e157 399 1004 (by first | decide | omega)).trans k31
    have k61 : ai_hv t157 399 1006 = some (.inl 0) := (e157 399 1006 (by first | decide | omega)).trans k32
    refine gx_ld (i := 2) (d := 0) (v := .inl e) rfl (fun _ => rfl) l56_2 rfl rfl ?_
    refine gx_ld (i := 4) (d := 0) (v := .inl (σ 8)) rfl (fun _ => rfl) hl56 rfl rfl ?_
    refine ex_iadd rfl (by first | decide | omega) rfl ?_
    refine gx_sto (i := 2) (d := 0) rfl (fun _ => rfl) rfl rfl (fun l62 hl62 ml62 => ?_)
    have l62_0 : en_ld l62 0 = some (gx_r 383) := ml62 0 _ l56_0 rfl
    have l62_1 : en_ld l62 1 = some (.inl 990) := ml62 1 _ l56_1 rfl
    have l62_3 : en_ld l62 3 = some (.inl 1) := ml62 3 _ l56_3 rfl
    have l62_4 : en_ld l62 4 = some (.inl (σ 8)) := ml62 4 _ hl56 rfl
    refine gx_ld (i := 0) (d := 2) (v := gx_r 383) rfl (fun _ => rfl) l62_0 rfl rfl ?_
    refine gx_ref (c := 399) rfl g157 rfl rfl rfl rfl ?_
    refine gx_ld (i := 1) (d := 0) (v := .inl 990) rfl (fun _ => rfl) l62_1 rfl rfl ?_
    refine ex_go (S := (112, l62, [.inl 13, .inl 990, gx_r 399], t157, n, 0)) rfl (fun _ => rfl) rfl ?_
    refine ex_go (S := (113, l62, [.inl 1003, gx_r 399], t157, n, 0)) rfl (fun _ => rfl) rfl ?_
    refine gx_ld (i := 3) (d := 0) (v := .inl 1) rfl (fun _ => rfl) l62_3 rfl rfl ?_
    refine ex_go (S := (115, l62, [.inl 1004, gx_r 399], t157, n, 0)) rfl (fun _ => rfl) rfl ?_
    refine gx_ld (i := 0) (d := 2) (v := gx_r 383) rfl (fun _ => rfl) l62_0 rfl rfl ?_
    refine gx_ref (c := 399) rfl g157 rfl rfl rfl rfl ?_
    refine gx_ld (i := 1) (d := 0) (v := .inl 990) rfl (fun _ => rfl) l62_1 rfl rfl ?_
    refine ex_go (S := (122, l62, [.inl 11, .inl 990, gx_r 399, .inl 1004, gx_r 399], t157, n, 0)) rfl (fun _ => rfl) rfl ?_
    refine ex_go (S := (123, l62, [.inl 1001, gx_r 399, .inl 1004, gx_r 399], t157, n, 0)) rfl (fun _ => rfl) rfl ?_
    refine gx_ld (i := 3) (d := 0) (v := .inl 1) rfl (fun _ => rfl) l62_3 rfl rfl ?_
    refine ex_go (S := (125, l62, [.inl 1002, gx_r 399, .inl 1004, gx_r 399], t157, n, 0)) rfl (fun _ => rfl) rfl ?_
    refine gx_ag (v := .inl (σ 12)) (cb := fun c => Nat.beq c 0) rfl (fun _ => rfl) g157 rfl rfl k59 (by first | decide | omega) rfl ?_
    refine ex_go (S := (127, l62, [.inl 1, .inl (σ 12), .inl 1004, gx_r 399], t157, n, 0)) rfl (fun _ => rfl) rfl ?_
    by_cases hc63 : σ 12 ≠ 1
    · refine gx_2t (c := .ne) rfl (by first | decide | omega) (by first | decide | omega) hc63 rfl ?_
      refine ex_go (S := (149, l62, [.inl 0, .inl 1004, gx_r 399], t157, n, 0)) rfl (fun _ => rfl) rfl ?_
      refine gx_ap rfl (fun _ => rfl) g157 rfl rfl rfl (show 1004 < 1035 from by omega) rfl (ai_in_h (by first | decide | omega) (by first | decide | omega) (by first | decide | omega)) rfl (fun t164 g164 k164 e164 => ?_)
      have k65 : ai_hv t164 399 990 = some (.inl (σ 0)) := (e164 399 990 (by first | decide | omega)).trans k58
      have k66 : ai_hv t164 399 1002 = some (.inl (σ 12)) := (e164 399 1002 (by first | decide | omega)).trans k59
      have k67 : ai_hv t164 399 1006 = some (.inl 0) := (e164 399 1006 (by first | decide | omega)).trans k61
      have k68 : ai_hv t164 399 998 = some (.inl ((σ 8) - (σ 8))) := (e164 399 998 (by first | decide | omega)).trans k157
      refine gx_incS (i := 3) (a := 1) (x := 1) rfl (fun _ => rfl) l62_3 (by first | decide | omega) rfl (fun l69 hl69 ml69 => ?_)
      have l69_0 : en_ld l69 0 = some (gx_r 383) := ml69 0 _ l62_0 rfl
      have l69_1 : en_ld l69 1 = some (.inl 990) := ml69 1 _ l62_1 rfl
      have l69_4 : en_ld l69 4 = some (.inl (σ 8)) := ml69 4 _ l62_4 rfl
      have l69_2 : en_ld l69 2 = some (.inl (e + (σ 8))) := ml69 2 _ hl62 rfl
      refine ex_go (S := (4, l69, [], t164, n, 0)) rfl (fun _ => rfl) rfl ?_
      have hm9 : meal w L σ 1 = σ 8 := by omega
      exact hQ _ t164 g164 (fun c i h => (e164 c i (by first | decide | omega)).trans ((e157 c i (by first | decide | omega)).trans ((e127 c i (by first | decide | omega)).trans (e122 c i (by first | decide | omega))))) k67 (by rw [hm9]; exact k68) (by rw [if_neg (by first | decide | omega)]; exact k164) l69_0 l69_1 (by rw [hm9]; exact l69_2) hl69
    · refine gx_2f (c := .ne) rfl (by first | decide | omega) (by first | decide | omega) hc63 rfl ?_
      refine gx_ld (i := 0) (d := 2) (v := gx_r 383) rfl (fun _ => rfl) l62_0 rfl rfl ?_
      refine gx_ld (i := 0) (d := 2) (v := gx_r 383) rfl (fun _ => rfl) l62_0 rfl rfl ?_
      refine gx_ref (c := 399) rfl g157 rfl rfl rfl rfl ?_
      refine gx_ld (i := 1) (d := 0) (v := .inl 990) rfl (fun _ => rfl) l62_1 rfl rfl ?_
      refine ex_go (S := (138, l62, [.inl 13, .inl 990, gx_r 399, gx_r 383, .inl 1004, gx_r 399], t157, n, 0)) rfl (fun _ => rfl) rfl ?_
      refine ex_go (S := (139, l62, [.inl 1003, gx_r 399, gx_r 383, .inl 1004, gx_r 399], t157, n, 0)) rfl (fun _ => rfl) rfl ?_
      refine gx_ld (i := 3) (d := 0) (v := .inl 1) rfl (fun _ => rfl) l62_3 rfl rfl ?_
      refine ex_go (S := (141, l62, [.inl 1004, gx_r 399, gx_r 383, .inl 1004, gx_r 399], t157, n, 0)) rfl (fun _ => rfl) rfl ?_
      refine gx_ag (v := .inl (σ 14)) (cb := fun c => Nat.beq c 0) rfl (fun _ => rfl) g157 rfl rfl k60 (by first | decide | omega) rfl ?_
      obtain ⟨_, r70, rfl⟩ := sr_flowsTo (d + 1) n (p := (σ 14)) g157 (RW_keep hR (fun i hi => (e157 389 i (by first | decide | omega)).trans ((e127 389 i (by first | decide | omega)).trans (e122 389 i (by first | decide | omega)))) (fun c i hc _ => (e157 c i (by first | decide | omega)).trans ((e127 c i (by first | decide | omega)).trans (e122 c i (by first | decide | omega))))) (by first | decide | omega)
      have hfl := nb_lt (O := w 0 0) (D := w 0 1) (p := σ 14) (s := w 1 (σ 14)) (by first | decide | omega) hR.2.1.1 hR.2.1.2.1
      have hfl : fto w (σ 14) < 64 := hfl
      refine gx_call1 rfl rfl g157 rfl rfl r70 rfl ?_
      show en_ex _ _ _ _ (145, l62, [.inl (fto w (σ 14)), .inl 1004, gx_r 399], t157, n, 0) _
      refine ex_go (S := (149, l62, [.inl (fto w (σ 14)), .inl 1004, gx_r 399], t157, n, 0)) rfl (fun _ => rfl) rfl ?_
      refine gx_ap rfl (fun _ => rfl) g157 rfl rfl rfl (show 1004 < 1035 from by omega) rfl (ai_in_h (by first | decide | omega) (by first | decide | omega) (by first | decide | omega)) rfl (fun t171 g171 k171 e171 => ?_)
      have k72 : ai_hv t171 399 990 = some (.inl (σ 0)) := (e171 399 990 (by first | decide | omega)).trans k58
      have k73 : ai_hv t171 399 1002 = some (.inl (σ 12)) := (e171 399 1002 (by first | decide | omega)).trans k59
      have k74 : ai_hv t171 399 1006 = some (.inl 0) := (e171 399 1006 (by first | decide | omega)).trans k61
      have k75 : ai_hv t171 399 998 = some (.inl ((σ 8) - (σ 8))) := (e171 399 998 (by first | decide | omega)).trans k157
      refine gx_incS (i := 3) (a := 1) (x := 1) rfl (fun _ => rfl) l62_3 (by first | decide | omega) rfl (fun l76 hl76 ml76 => ?_)
      have l76_0 : en_ld l76 0 = some (gx_r 383) := ml76 0 _ l62_0 rfl
      have l76_1 : en_ld l76 1 = some (.inl 990) := ml76 1 _ l62_1 rfl
      have l76_4 : en_ld l76 4 = some (.inl (σ 8)) := ml76 4 _ l62_4 rfl
      have l76_2 : en_ld l76 2 = some (.inl (e + (σ 8))) := ml76 2 _ hl62 rfl
      refine ex_go (S := (4, l76, [], t171, n, 0)) rfl (fun _ => rfl) rfl ?_
      have hm9 : meal w L σ 1 = σ 8 := by omega
      exact hQ _ t171 g171 (fun c i h => (e171 c i (by first | decide | omega)).trans ((e157 c i (by first | decide | omega)).trans ((e127 c i (by first | decide | omega)).trans (e122 c i (by first | decide | omega))))) k74 (by rw [hm9]; exact k75) (by rw [if_pos (by first | decide | omega)]; exact k171) l76_0 l76_1 (by rw [hm9]; exact l76_2) hl76
set_option maxRecDepth 1000000 in
theorem sr_pt990 (d n : Nat) {tb : en_H} {w : Nat → Nat → Nat} {L : List Nat} {P : Nat → Nat} {e : Nat} {Q : en_O → Prop} (hR : RW tb w L) (hP : ∀ i, i < 6 → P i ≤ 63) (hQ : ∀ cl t1, ai_HG ah_G t1 → (∀ c i, ¬ (c = 399 ∧ 991 ≤ i ∧ i ≤ 996) → ai_hv t1 c i = ai_hv tb c i) → (∀ i, i < 6 → ai_hv t1 399 (991 + i) = some (.inl (if i < w 0 2 then fto w (P i) else P i))) → en_ld cl 0 = some (gx_r 383) → en_ld cl 1 = some (.inl 990) → en_ld cl 2 = some (.inl e) → en_ex none (en_u (d + 4)) (en_code 116) (fun _ => false) (196, cl, [], t1, n, 0) Q) : ∀ j k cl t0, k + j = w 0 2 → ai_HG ah_G t0 → (∀ c i, ¬ (c = 399 ∧ 991 ≤ i ∧ i ≤ 996) → ai_hv t0 c i = ai_hv tb c i) → (∀ i, i < 6 → ai_hv t0 399 (991 + i) = some (.inl (if i < k then fto w (P i) else P i))) → en_ld cl 0 = some (gx_r 383) → en_ld cl 1 = some (.inl 990) → en_ld cl 2 = some (.inl e) → en_ld cl 3 = some (.inl k) → en_ex none (en_u (d + 4)) (en_code 116) (fun _ => false) (158, cl, [], t0, n, 0) Q := by
  have hT := hR.2.1.2.2.1
  intro j
  induction j with
  | zero =>
    intro k cl t0 hk g0 e0 i0 l0 l1 l2 l3
    have hk : k = w 0 2 := by omega
    have kT := (e0 389 2 (by first | decide | omega)).trans (hR.1 2 (by first | decide | omega))
    refine gx_ld (i := 3) (d := 0) (v := .inl k) rfl (fun _ => rfl) l3 rfl rfl ?_
    refine gx_ld (i := 0) (d := 2) (v := gx_r 383) rfl (fun _ => rfl) l0 rfl rfl ?_
    obtain ⟨_, r21, rfl⟩ := sr_things (d + 3) n g0 kT
    refine gx_call1 rfl rfl g0 rfl rfl r21 rfl ?_
    show en_ex _ _ _ _ (163, cl, [.inl (w 0 2), .inl k], t0, n, 0) _
    refine gx_2t (c := .ge) rfl (by first | decide | omega) (by first | decide | omega) (show w 0 2 ≤ k from by omega) rfl ?_
    rw [hk] at i0
    exact hQ _ t0 g0 e0 i0 l0 l1 l2
  | succ j ih =>
    intro k cl t0 hk g0 e0 i0 l0 l1 l2 l3
    have kT := (e0 389 2 (by first | decide | omega)).trans (hR.1 2 (by first | decide | omega))
    have kp := i0 k (by first | decide | omega)
    rw [if_neg (by first | decide | omega)] at kp
    have hp := hP k (by first | decide | omega)
    have hfl := nb_lt (O := w 0 0) (D := w 0 1) (p := P k) (s := w 1 (P k)) (by first | decide | omega) hR.2.1.1 hR.2.1.2.1
    have hfl : fto w (P k) < 64 := hfl
    refine gx_ld (i := 3) (d := 0) (v := .inl k) rfl (fun _ => rfl) l3 rfl rfl ?_
    refine gx_ld (i := 0) (d := 2) (v := gx_r 383) rfl (fun _ => rfl) l0 rfl rfl ?_
    obtain ⟨_, r21, rfl⟩ := sr_things (d + 3) n g0 kT
    refine gx_call1 rfl rfl g0 rfl rfl r21 rfl ?_
    show en_ex _ _ _ _ (163, cl, [.inl (w 0 2), .inl k], t0, n, 0) _
    refine gx_2f (c := .ge) rfl (by first | decide | omega) (by first | decide | omega) (show ¬ (w 0 2 ≤ k) from by omega) rfl ?_
    refine gx_ld (i := 0) (d := 2) (v := gx_r 383) rfl (fun _ => rfl) l0 rfl rfl ?_
    refine gx_ref (c := 399) rfl g0 rfl rfl rfl rfl ?_
    refine gx_ld (i := 1) (d := 0) (v := .inl 990) rfl (fun _ => rfl) l1 rfl rfl ?_
    refine ex_go (S := (172, cl, [.inl 1, .inl 990, gx_r 399], t0, n, 0)) rfl (fun _ => rfl) rfl ?_
    refine ex_go (S := (173, cl, [.inl 991, gx_r 399], t0, n, 0)) rfl (fun _ => rfl) rfl ?_
    refine gx_ld (i := 3) (d := 0) (v := .inl k) rfl (fun _ => rfl) l3 rfl rfl ?_
    refine ex_iadd rfl (by first | decide | omega) rfl ?_
    refine gx_ld (i := 0) (d := 2) (v := gx_r 383) rfl (fun _ => rfl) l0 rfl rfl ?_
    refine gx_ld (i := 0) (d := 2) (v := gx_r 383) rfl (fun _ => rfl) l0 rfl rfl ?_
    refine gx_ref (c := 399) rfl g0 rfl rfl rfl rfl ?_
    refine gx_ld (i := 1) (d := 0) (v := .inl 990) rfl (fun _ => rfl) l1 rfl rfl ?_
    refine ex_go (S := (182, cl, [.inl 1, .inl 990, gx_r 399, gx_r 383, .inl (991 + k), gx_r 399], t0, n, 0)) rfl (fun _ => rfl) rfl ?_
    refine ex_go (S := (183, cl, [.inl 991, gx_r 399, gx_r 383, .inl (991 + k), gx_r 399], t0, n, 0)) rfl (fun _ => rfl) rfl ?_
    refine gx_ld (i := 3) (d := 0) (v := .inl k) rfl (fun _ => rfl) l3 rfl rfl ?_
    refine ex_iadd rfl (by first | decide | omega) rfl ?_
    refine gx_ag (v := .inl (P k)) (cb := fun c => Nat.beq c 0) rfl (fun _ => rfl) g0 rfl rfl kp (by first | decide | omega) rfl ?_
    obtain ⟨_, r22, rfl⟩ := sr_flowsTo (d + 1) n (p := P k) g0 (RW_keep hR (fun i hi => e0 389 i (by first | decide | omega)) (fun c i hc _ => e0 c i (by first | decide | omega))) (by first | decide | omega)
    refine gx_call1 rfl rfl g0 rfl rfl r22 rfl ?_
    show en_ex _ _ _ _ (189, cl, [.inl (fto w (P k)), .inl (991 + k), gx_r 399], t0, n, 0) _
    refine gx_ap rfl (fun _ => rfl) g0 rfl rfl rfl (show 991 + k < 1035 from by omega) (gx_at (rs := ah_399.2.2.2) (b := 991) (st := 1) (lo := 2147483648) (hi := 2147483711) (m := 6) (by decide +kernel) k (by first | decide | omega) (by first | decide | omega)) (ai_in_h (by first | decide | omega) (by first | decide | omega) (by first | decide | omega)) rfl (fun t123 g123 k123 e123 => ?_)
    refine gx_incS (i := 3) (a := k) (x := 1) rfl (fun _ => rfl) l3 (by first | decide | omega) rfl (fun l24 hl24 ml24 => ?_)
    have l24_0 : en_ld l24 0 = some (gx_r 383) := ml24 0 _ l0 rfl
    have l24_1 : en_ld l24 1 = some (.inl 990) := ml24 1 _ l1 rfl
    have l24_2 : en_ld l24 2 = some (.inl e) := ml24 2 _ l2 rfl
    refine ex_go (S := (158, l24, [], t123, n, 0)) rfl (fun _ => rfl) rfl ?_
    refine ih (k + 1) _ t123 (by first | decide | omega) g123 (fun c i h => (e123 c i (by first | decide | omega)).trans (e0 c i h)) (fun i hi => ?_) l24_0 l24_1 l24_2 hl24
    by_cases e9 : i = k
    · subst e9
      rw [if_pos (by first | decide | omega)]
      exact k123
    · refine (e123 399 (991 + i) (by first | decide | omega)).trans ((i0 i hi).trans ?_)
      by_cases c9 : i < k
      · rw [if_pos c9, if_pos (by first | decide | omega)]
      · rw [if_neg c9, if_neg (by first | decide | omega)]
set_option maxRecDepth 1000000 in
theorem sr_bd990 {t : en_H} {σ : Nat → Nat} (g : ai_HG ah_G t) (h : ∀ j, j < 17 → ai_hv t 399 (990 + j) = some (.inl (σ j))) : sbd σ := by
  refine ⟨fun i hi => ?_, ⟨?_, ?_⟩, ⟨?_, ?_⟩, ⟨?_, ?_⟩, ⟨?_, ?_⟩, ?_, ?_, ?_⟩
  · obtain ⟨m, k, -, h2⟩ := gx_inb (c := 399) (i := 990 + (1 + i)) (lo := 0) (hi := 63) g rfl (show 990 + (1 + i) < 1035 by omega) (gx_at (rs := ah_399.2.2.2) (b := 991) (st := 1) (lo := 2147483648) (hi := 2147483711) (m := 6) (by decide +kernel) i hi (by first | decide | omega)) (by decide) (by decide) rfl
    have e9 : σ (1 + i) = m := Sum.inl.inj (Option.some.inj ((h (1 + i) (by first | decide | omega)).symm.trans k))
    omega
  · obtain ⟨m, k, -, h2⟩ := gx_in (c := 399) (i := 997) (lo := 0) (hi := 19998) g rfl rfl rfl rfl
    have e9 : σ 7 = m := Sum.inl.inj (Option.some.inj ((h 7 (by first | decide | omega)).symm.trans k))
    omega
  · obtain ⟨m, k, -, h2⟩ := gx_in (c := 399) (i := 998) (lo := 0) (hi := 19998) g rfl rfl rfl rfl
    have e9 : σ 8 = m := Sum.inl.inj (Option.some.inj ((h 8 (by first | decide | omega)).symm.trans k))
    omega
  · obtain ⟨m, k, -, h2⟩ := gx_in (c := 399) (i := 1001) (lo := 0) (hi := 1) g rfl rfl rfl rfl
    have e9 : σ 11 = m := Sum.inl.inj (Option.some.inj ((h 11 (by first | decide | omega)).symm.trans k))
    omega
  · obtain ⟨m, k, -, h2⟩ := gx_in (c := 399) (i := 1002) (lo := 0) (hi := 1) g rfl rfl rfl rfl
    have e9 : σ 12 = m := Sum.inl.inj (Option.some.inj ((h 12 (by first | decide | omega)).symm.trans k))
    omega
  · obtain ⟨m, k, -, h2⟩ := gx_in (c := 399) (i := 1003) (lo := 0) (hi := 63) g rfl rfl rfl rfl
    have e9 : σ 13 = m := Sum.inl.inj (Option.some.inj ((h 13 (by first | decide | omega)).symm.trans k))
    omega
  · obtain ⟨m, k, -, h2⟩ := gx_in (c := 399) (i := 1004) (lo := 0) (hi := 63) g rfl rfl rfl rfl
    have e9 : σ 14 = m := Sum.inl.inj (Option.some.inj ((h 14 (by first | decide | omega)).symm.trans k))
    omega
  · obtain ⟨m, k, -, h2⟩ := gx_in (c := 399) (i := 1005) (lo := 0) (hi := 1) g rfl rfl rfl rfl
    have e9 : σ 15 = m := Sum.inl.inj (Option.some.inj ((h 15 (by first | decide | omega)).symm.trans k))
    omega
  · obtain ⟨m, k, -, h2⟩ := gx_in (c := 399) (i := 1006) (lo := 0) (hi := 1) g rfl rfl rfl rfl
    have e9 : σ 16 = m := Sum.inl.inj (Option.some.inj ((h 16 (by first | decide | omega)).symm.trans k))
    omega
  · obtain ⟨m, k, h2⟩ := gx_any (c := 399) (i := 990) g rfl rfl rfl
    have e9 : σ 0 = m := Sum.inl.inj (Option.some.inj ((h 0 (by first | decide | omega)).symm.trans k))
    omega
  · obtain ⟨m, k, h2⟩ := gx_any (c := 399) (i := 999) g rfl rfl rfl
    have e9 : σ 9 = m := Sum.inl.inj (Option.some.inj ((h 9 (by first | decide | omega)).symm.trans k))
    omega
  · obtain ⟨m, k, h2⟩ := gx_any (c := 399) (i := 1000) g rfl rfl rfl
    have e9 : σ 10 = m := Sum.inl.inj (Option.some.inj ((h 10 (by first | decide | omega)).symm.trans k))
    omega
set_option maxRecDepth 1000000 in
theorem sr_passes990 (d n : Nat) {t0 : en_H} {w : Nat → Nat → Nat} {L : List Nat} {σ : Nat → Nat} (g0 : ai_HG ah_G t0) (hR : RW t0 w L) (hσ : ∀ j, j < 17 → ai_hv t0 399 (990 + j) = some (.inl (σ j))) : ∃ r, en_u (d + 5) 116 [gx_r 383, .inl 990] t0 n = some r ∧ ∃ t', r = (some (.inl (eaten w L σ)), t', n, 0) ∧ ai_HG ah_G t' ∧ (∀ c i, ¬ ((c = 399 ∧ 990 ≤ i ∧ i < 1007) ∨ (c = 397 ∧ i < 3) ∨ c = 398) → ai_hv t' c i = ai_hv t0 c i) ∧ ∀ j, j < 17 → ai_hv t' 399 (990 + j) = some (.inl (stp w L σ j)) := by
  obtain ⟨hb1, ⟨hb7, hb8⟩, ⟨hb11, hb12⟩, ⟨hb13, hb14⟩, -, hb0, -, -⟩ := sr_bd990 g0 hσ
  have kK := hR.1 4 (by first | decide | omega)
  have kT := hR.1 2 (by first | decide | omega)
  have hm0 := meal_le (w := w) (L := L) (σ := σ) (c := 0)
  have hm1 := meal_le (w := w) (L := L) (σ := σ) (c := 1)
  have q0 : ai_hv t0 399 990 = some (.inl (σ 0)) := hσ 0 (by first | decide | omega)
  have q7 : ai_hv t0 399 997 = some (.inl (σ 7)) := hσ 7 (by first | decide | omega)
  have q8 : ai_hv t0 399 998 = some (.inl (σ 8)) := hσ 8 (by first | decide | omega)
  have q9 : ai_hv t0 399 999 = some (.inl (σ 9)) := hσ 9 (by first | decide | omega)
  have q10 : ai_hv t0 399 1000 = some (.inl (σ 10)) := hσ 10 (by first | decide | omega)
  have q11 : ai_hv t0 399 1001 = some (.inl (σ 11)) := hσ 11 (by first | decide | omega)
  have q12 : ai_hv t0 399 1002 = some (.inl (σ 12)) := hσ 12 (by first | decide | omega)
  have q13 : ai_hv t0 399 1003 = some (.inl (σ 13)) := hσ 13 (by first | decide | omega)
  have q14 : ai_hv t0 399 1004 = some (.inl (σ 14)) := hσ 14 (by first | decide | omega)
  have q15 : ai_hv t0 399 1005 = some (.inl (σ 15)) := hσ 15 (by first | decide | omega)
  have q16 : ai_hv t0 399 1006 = some (.inl (σ 16)) := hσ 16 (by first | decide | omega)
  have hK := hR.2.1.2.2.2.2.1
  rcases (show w 0 4 = 0 ∨ w 0 4 = 1 ∨ w 0 4 = 2 by omega) with hK9 | hK9 | hK9
  · refine en_u_ex (d := d + 4) rfl ?_
    show en_ex _ _ _ _ (0, [(0, gx_r 383), (1, .inl 990)], [], t0, n, 0) _
    refine ex_go (S := (1, [(0, gx_r 383), (1, .inl 990)], [.inl 0], t0, n, 0)) rfl (fun _ => rfl) rfl ?_
    refine ex_go (S := (2, [(2, .inl 0), (0, gx_r 383), (1, .inl 990)], [], t0, n, 0)) rfl (fun _ => rfl) rfl ?_
    refine ex_go (S := (3, [(2, .inl 0), (0, gx_r 383), (1, .inl 990)], [.inl 0], t0, n, 0)) rfl (fun _ => rfl) rfl ?_
    refine ex_go (S := (4, [(3, .inl 0), (2, .inl 0), (0, gx_r 383), (1, .inl 990)], [], t0, n, 0)) rfl (fun _ => rfl) rfl ?_
    refine ex_go (S := (5, [(3, .inl 0), (2, .inl 0), (0, gx_r 383), (1, .inl 990)], [.inl 0], t0, n, 0)) rfl (fun _ => rfl) rfl ?_
    refine ex_go (S := (6, [(3, .inl 0), (2, .inl 0), (0, gx_r 383), (1, .inl 990)], [gx_r 383, .inl 0], t0, n, 0)) rfl (fun _ => rfl) rfl ?_
    obtain ⟨_, r21, rfl⟩ := sr_crews (d + 3) n g0 (by have h9 := kK; rw [hK9] at h9; exact h9)
    refine gx_call1 rfl rfl g0 rfl rfl r21 rfl ?_
    show en_ex _ _ _ _ (9, [(3, .inl 0), (2, .inl 0), (0, gx_r 383), (1, .inl 990)], [.inl 0, .inl 0], t0, n, 0) _
    refine ex_go (S := (156, [(3, .inl 0), (2, .inl 0), (0, gx_r 383), (1, .inl 990)], [], t0, n, 0)) rfl (fun _ => rfl) rfl ?_
    refine ex_go (S := (157, [(3, .inl 0), (2, .inl 0), (0, gx_r 383), (1, .inl 990)], [.inl 0], t0, n, 0)) rfl (fun _ => rfl) rfl ?_
    refine ex_go (S := (158, [(3, .inl 0), (2, .inl 0), (0, gx_r 383), (1, .inl 990)], [], t0, n, 0)) rfl (fun _ => rfl) rfl ?_
    refine sr_pt990 d n (tb := t0) (w := w) (L := L) (P := fun i => σ (1 + i)) (e := 0) hR hb1 (fun cl122 t122 g122 e122 i122 l1220 l1221 l1222 => ?_) (w 0 2) 0 _ _ (by first | decide | omega) g0 (fun _ _ _ => rfl) (fun i hi => ?_) rfl rfl rfl rfl
    · have k23 : ai_hv t122 399 990 = some (.inl (σ 0)) := (e122 399 990 (by first | decide | omega)).trans q0
      have k24 : ai_hv t122 399 997 = some (.inl (σ 7)) := (e122 399 997 (by first | decide | omega)).trans q7
      have k25 : ai_hv t122 399 998 = some (.inl (σ 8)) := (e122 399 998 (by first | decide | omega)).trans q8
      have k26 : ai_hv t122 399 999 = some (.inl (σ 9)) := (e122 399 999 (by first | decide | omega)).trans q9
      have k27 : ai_hv t122 399 1000 = some (.inl (σ 10)) := (e122 399 1000 (by first | decide | omega)).trans q10
      have k28 : ai_hv t122 399 1001 = some (.inl (σ 11)) := (e122 399 1001 (by first | decide | omega)).trans q11
      have k29 : ai_hv t122 399 1002 = some (.inl (σ 12)) := (e122 399 1002 (by first | decide | omega)).trans q12
      have k30 : ai_hv t122 399 1003 = some (.inl (σ 13)) := (e122 399 1003 (by first | decide | omega)).trans q13
      have k31 : ai_hv t122 399 1004 = some (.inl (σ 14)) := (e122 399 1004 (by first | decide | omega)).trans q14
      have k32 : ai_hv t122 399 1005 = some (.inl (σ 15)) := (e122 399 1005 (by first | decide | omega)).trans q15
      have k33 : ai_hv t122 399 1006 = some (.inl (σ 16)) := (e122 399 1006 (by first | decide | omega)).trans q16
      refine gx_ld (i := 0) (d := 2) (v := gx_r 383) rfl (fun _ => rfl) l1220 rfl rfl ?_
      refine gx_ref (c := 399) rfl g122 rfl rfl rfl rfl ?_
      refine gx_ld (i := 1) (d := 0) (v := .inl 990) rfl (fun _ => rfl) l1221 rfl rfl ?_
      refine ex_go (S := (202, cl122, [.inl 0, .inl 990, gx_r 399], t122, n, 0)) rfl (fun _ => rfl) rfl ?_
      refine ex_go (S := (203, cl122, [.inl 990, gx_r 399], t122, n, 0)) rfl (fun _ => rfl) rfl ?_
      refine ex_go (S := (204, cl122, [.inl 990, gx_r 399, .inl 990, gx_r 399], t122, n, 0)) rfl (fun _ => rfl) rfl ?_
      refine gx_ag (v := .inl (σ 0)) (cb := fun c => Nat.beq c 0) rfl (fun _ => rfl) g122 rfl rfl k23 (by first | decide | omega) rfl ?_
      refine ex_go (S := (206, cl122, [.inl 1, .inl (σ 0), .inl 990, gx_r 399], t122, n, 0)) rfl (fun _ => rfl) rfl ?_
      have hw34 : en_wrap ((σ 0) + 1) < 4294967296 := wrap_lt
      refine gs_iaddx rfl rfl ?_
      refine gx_ap rfl (fun _ => rfl) g122 rfl rfl rfl (show 990 < 1035 from by omega) rfl (gx_full (by first | decide | omega)) rfl (fun t135 g135 k135 e135 => ?_)
      have k36 : ai_hv t135 399 997 = some (.inl (σ 7)) := (e135 399 997 (by first | decide | omega)).trans k24
      have k37 : ai_hv t135 399 998 = some (.inl (σ 8)) := (e135 399 998 (by first | decide | omega)).trans k25
      have k38 : ai_hv t135 399 999 = some (.inl (σ 9)) := (e135 399 999 (by first | decide | omega)).trans k26
      have k39 : ai_hv t135 399 1000 = some (.inl (σ 10)) := (e135 399 1000 (by first | decide | omega)).trans k27
      have k40 : ai_hv t135 399 1001 = some (.inl (σ 11)) := (e135 399 1001 (by first | decide | omega)).trans k28
      have k41 : ai_hv t135 399 1002 = some (.inl (σ 12)) := (e135 399 1002 (by first | decide | omega)).trans k29
      have k42 : ai_hv t135 399 1003 = some (.inl (σ 13)) := (e135 399 1003 (by first | decide | omega)).trans k30
      have k43 : ai_hv t135 399 1004 = some (.inl (σ 14)) := (e135 399 1004 (by first | decide | omega)).trans k31
      have k44 : ai_hv t135 399 1005 = some (.inl (σ 15)) := (e135 399 1005 (by first | decide | omega)).trans k32
      have k45 : ai_hv t135 399 1006 = some (.inl (σ 16)) := (e135 399 1006 (by first | decide | omega)).trans k33
      refine gx_ld (i := 2) (d := 0) (v := .inl 0) rfl (fun _ => rfl) l1222 rfl rfl ?_
      refine ex_ret (r := (some (.inl 0), t135, n, 0)) rfl (fun _ => rfl) ?_
      have he9 : eaten w L σ = 0 := by unfold eaten; rw [hK9]; rfl
      refine ⟨_, rfl, t135, by rw [he9], g135, (fun c i h => (e135 c i (by first | decide | omega)).trans (e122 c i (by first | decide | omega))), fun j hj => ?_⟩
      rcases (show j = 0 ∨ (1 ≤ j ∧ j ≤ 6) ∨ j = 7 ∨ j = 8 ∨ j = 9 ∨ j = 10 ∨ j = 11 ∨ j = 12 ∨ j = 13 ∨ j = 14 ∨ j = 15 ∨ j = 16 by omega) with rfl | hj6 | rfl | rfl | rfl | rfl | rfl | rfl | rfl | rfl | rfl | rfl
      · rw [stp_0]; exact k135
      · obtain ⟨i, rfl, hi⟩ : ∃ i, j = 1 + i ∧ i < 6 := ⟨j - 1, by omega, by omega⟩
        rw [stp_pl hi, show 990 + (1 + i) = 991 + i by omega]
        exact (e135 399 (991 + i) (by first | decide | omega)).trans (i122 i hi)
      · rw [show (7 : Nat) = 7 + 0 from rfl, stp_bi (by decide), if_neg (by first | decide | omega)]; exact k36
      · rw [show (8 : Nat) = 7 + 1 from rfl, stp_bi (by decide), if_neg (by first | decide | omega)]; exact k37
      · rw [stp_mid (by decide) (by decide)]; exact k38
      · rw [stp_mid (by decide) (by decide)]; exact k39
      · rw [stp_mid (by decide) (by decide)]; exact k40
      · rw [stp_mid (by decide) (by decide)]; exact k41
      · rw [show (13 : Nat) = 13 + 0 from rfl, stp_sl (by decide), if_neg (by first | decide | omega)]; exact k42
      · rw [show (14 : Nat) = 13 + 1 from rfl, stp_sl (by decide), if_neg (by first | decide | omega)]; exact k43
      · rw [show (15 : Nat) = 15 + 0 from rfl, stp_ha (by decide), if_neg (by first | decide | omega)]; exact k44
      · rw [show (16 : Nat) = 15 + 1 from rfl, stp_ha (by decide), if_neg (by first | decide | omega)]; exact k45
    · rw [if_neg (Nat.not_lt_zero i)]
      exact (show ai_hv t0 399 (991 + i) = some (.inl (σ (1 + i))) from by have h9 := hσ (1 + i) (by first | decide | omega); rw [show 990 + (1 + i) = 991 + i by omega] at h9; exact h9)
  · refine en_u_ex (d := d + 4) rfl ?_
    show en_ex _ _ _ _ (0, [(0, gx_r 383), (1, .inl 990)], [], t0, n, 0) _
    refine ex_go (S := (1, [(0, gx_r 383), (1, .inl 990)], [.inl 0], t0, n, 0)) rfl (fun _ => rfl) rfl ?_
    refine ex_go (S := (2, [(2, .inl 0), (0, gx_r 383), (1, .inl 990)], [], t0, n, 0)) rfl (fun _ => rfl) rfl ?_
    refine ex_go (S := (3, [(2, .inl 0), (0, gx_r 383), (1, .inl 990)], [.inl 0], t0, n, 0)) rfl (fun _ => rfl) rfl ?_
    refine ex_go (S := (4, [(3, .inl 0), (2, .inl 0), (0, gx_r 383), (1, .inl 990)], [], t0, n, 0)) rfl (fun _ => rfl) rfl ?_
    refine sr_pc990_0 d n (σ := σ) (e := 0) g0 hR (by first | decide | omega) q0 q7 q11 q13 hb0 hb7 hb11 hb13 (by first | decide | omega) rfl rfl rfl rfl (fun cl121 t121 g121 e121 a121 b121 c121 l1210 l1211 l1212 l1213 => ?_)
    have k22 : ai_hv t121 399 990 = some (.inl (σ 0)) := (e121 399 990 (by first | decide | omega)).trans q0
    have k23 : ai_hv t121 399 998 = some (.inl (σ 8)) := (e121 399 998 (by first | decide | omega)).trans q8
    have k24 : ai_hv t121 399 999 = some (.inl (σ 9)) := (e121 399 999 (by first | decide | omega)).trans q9
    have k25 : ai_hv t121 399 1000 = some (.inl (σ 10)) := (e121 399 1000 (by first | decide | omega)).trans q10
    have k26 : ai_hv t121 399 1001 = some (.inl (σ 11)) := (e121 399 1001 (by first | decide | omega)).trans q11
    have k27 : ai_hv t121 399 1002 = some (.inl (σ 12)) := (e121 399 1002 (by first | decide | omega)).trans q12
    have k28 : ai_hv t121 399 1004 = some (.inl (σ 14)) := (e121 399 1004 (by first | decide | omega)).trans q14
    have k29 : ai_hv t121 399 1006 = some (.inl (σ 16)) := (e121 399 1006 (by first | decide | omega)).trans q16
    refine gx_ld (i := 3) (d := 0) (v := .inl 1) rfl (fun _ => rfl) l1213 rfl rfl ?_
    refine gx_ld (i := 0) (d := 2) (v := gx_r 383) rfl (fun _ => rfl) l1210 rfl rfl ?_
    obtain ⟨_, r30, rfl⟩ := sr_crews (d + 3) n g121 (by have h9 := (e121 389 4 (by first | decide | omega)).trans (kK); rw [hK9] at h9; exact h9)
    refine gx_call1 rfl rfl g121 rfl rfl r30 rfl ?_
    show en_ex _ _ _ _ (9, cl121, [.inl 1, .inl 1], t121, n, 0) _
    refine ex_go (S := (156, cl121, [], t121, n, 0)) rfl (fun _ => rfl) rfl ?_
    refine ex_go (S := (157, cl121, [.inl 0], t121, n, 0)) rfl (fun _ => rfl) rfl ?_
    refine gx_sto (i := 3) (d := 0) rfl (fun _ => rfl) rfl rfl (fun l31 hl31 ml31 => ?_)
    have l31_0 : en_ld l31 0 = some (gx_r 383) := ml31 0 _ l1210 rfl
    have l31_1 : en_ld l31 1 = some (.inl 990) := ml31 1 _ l1211 rfl
    have l31_2 : en_ld l31 2 = some (.inl (0 + meal w L σ 0)) := ml31 2 _ l1212 rfl
    refine sr_pt990 d n (tb := t121) (w := w) (L := L) (P := fun i => σ (1 + i)) (e := 0 + meal w L σ 0) (RW_keep hR (fun i hi => e121 389 i (by first | decide | omega)) (fun c i hc _ => e121 c i (by first | decide | omega))) hb1 (fun cl132 t132 g132 e132 i132 l1320 l1321 l1322 => ?_) (w 0 2) 0 _ _ (by first | decide | omega) g121 (fun _ _ _ => rfl) (fun i hi => ?_) l31_0 l31_1 l31_2 hl31
    · have k33 : ai_hv t132 399 990 = some (.inl (σ 0)) := (e132 399 990 (by first | decide | omega)).trans k22
      have k34 : ai_hv t132 399 998 = some (.inl (σ 8)) := (e132 399 998 (by first | decide | omega)).trans k23
      have k35 : ai_hv t132 399 999 = some (.inl (σ 9)) := (e132 399 999 (by first | decide | omega)).trans k24
      have k36 : ai_hv t132 399 1000 = some (.inl (σ 10)) := (e132 399 1000 (by first | decide | omega)).trans k25
      have k37 : ai_hv t132 399 1001 = some (.inl (σ 11)) := (e132 399 1001 (by first | decide | omega)).trans k26
      have k38 : ai_hv t132 399 1002 = some (.inl (σ 12)) := (e132 399 1002 (by first | decide | omega)).trans k27
      have k39 : ai_hv t132 399 1004 = some (.inl (σ 14)) := (e132 399 1004 (by first | decide | omega)).trans k28
      have k40 : ai_hv t132 399 1006 = some (.inl (σ 16)) := (e132 399 1006 (by first | decide | omega)).trans k29
      have k41 : ai_hv t132 399 1005 = some (.inl 0) := (e132 399 1005 (by first | decide | omega)).trans a121
      have k42 : ai_hv t132 399 997 = some (.inl (σ 7 - meal w L σ 0)) := (e132 399 997 (by first | decide | omega)).trans b121
      have k43 : ai_hv t132 399 1003 = some (.inl (if σ 11 = 1 then fto w (σ 13) else 0)) := (e132 399 1003 (by first | decide | omega)).trans c121
      refine gx_ld (i := 0) (d := 2) (v := gx_r 383) rfl (fun _ => rfl) l1320 rfl rfl ?_
      refine gx_ref (c := 399) rfl g132 rfl rfl rfl rfl ?_
      refine gx_ld (i := 1) (d := 0) (v := .inl 990) rfl (fun _ => rfl) l1321 rfl rfl ?_
      refine ex_go (S := (202, cl132, [.inl 0, .inl 990, gx_r 399], t132, n, 0)) rfl (fun _ => rfl) rfl ?_
      refine ex_go (S := (203, cl132, [.inl 990, gx_r 399], t132, n, 0)) rfl (fun _ => rfl) rfl ?_
      refine ex_go (S := (204, cl132, [.inl 990, gx_r 399, .inl 990, gx_r 399], t132, n, 0)) rfl (fun _ => rfl) rfl ?_
      refine gx_ag (v := .inl (σ 0)) (cb := fun c => Nat.beq c 0) rfl (fun _ => rfl) g132 rfl rfl k33 (by first | decide | omega) rfl ?_
      refine ex_go (S := (206, cl132, [.inl 1, .inl (σ 0), .inl 990, gx_r 399], t132, n, 0)) rfl (fun _ => rfl) rfl ?_
      have hw44 : en_wrap ((σ 0) + 1) < 4294967296 := wrap_lt
      refine gs_iaddx rfl rfl ?_
      refine gx_ap rfl (fun _ => rfl) g132 rfl rfl rfl (show 990 < 1035 from by omega) rfl (gx_full (by first | decide | omega)) rfl (fun t145 g145 k145 e145 => ?_)
      have k46 : ai_hv t145 399 998 = some (.inl (σ 8)) := (e145 399 998 (by first | decide | omega)).trans k34
      have k47 : ai_hv t145 399 999 = some (.inl (σ 9)) := (e145 399 999 (by first | decide | omega)).trans k35
      have k48 : ai_hv t145 399 1000 = some (.inl (σ 10)) := (e145 399 1000 (by first | decide | omega)).trans k36
      have k49 : ai_hv t145 399 1001 = some (.inl (σ 11)) := (e145 399 1001 (by first | decide | omega)).trans k37
      have k50 : ai_hv t145 399 1002 = some (.inl (σ 12)) := (e145 399 1002 (by first | decide | omega)).trans k38
      have k51 : ai_hv t145 399 1004 = some (.inl (σ 14)) := (e145 399 1004 (by first | decide | omega)).trans k39
      have k52 : ai_hv t145 399 1006 = some (.inl (σ 16)) := (e145 399 1006 (by first | decide | omega)).trans k40
      have k53 : ai_hv t145 399 1005 = some (.inl 0) := (e145 399 1005 (by first | decide | omega)).trans k41
      have k54 : ai_hv t145 399 997 = some (.inl (σ 7 - meal w L σ 0)) := (e145 399 997 (by first | decide | omega)).trans k42
      have k55 : ai_hv t145 399 1003 = some (.inl (if σ 11 = 1 then fto w (σ 13) else 0)) := (e145 399 1003 (by first | decide | omega)).trans k43
      refine gx_ld (i := 2) (d := 0) (v := .inl (0 + meal w L σ 0)) rfl (fun _ => rfl) l1322 rfl rfl ?_
      refine ex_ret (r := (some (.inl (0 + meal w L σ 0)), t145, n, 0)) rfl (fun _ => rfl) ?_
      have he9 : eaten w L σ = 0 + meal w L σ 0 := by unfold eaten; rw [hK9]; rw [if_pos (by decide), if_neg (by decide)]; omega
      refine ⟨_, rfl, t145, by rw [he9], g145, (fun c i h => (e145 c i (by first | decide | omega)).trans ((e132 c i (by first | decide | omega)).trans (e121 c i (by first | decide | omega)))), fun j hj => ?_⟩
      rcases (show j = 0 ∨ (1 ≤ j ∧ j ≤ 6) ∨ j = 7 ∨ j = 8 ∨ j = 9 ∨ j = 10 ∨ j = 11 ∨ j = 12 ∨ j = 13 ∨ j = 14 ∨ j = 15 ∨ j = 16 by omega) with rfl | hj6 | rfl | rfl | rfl | rfl | rfl | rfl | rfl | rfl | rfl | rfl
      · rw [stp_0]; exact k145
      · obtain ⟨i, rfl, hi⟩ : ∃ i, j = 1 + i ∧ i < 6 := ⟨j - 1, by omega, by omega⟩
        rw [stp_pl hi, show 990 + (1 + i) = 991 + i by omega]
        exact (e145 399 (991 + i) (by first | decide | omega)).trans (i132 i hi)
      · rw [show (7 : Nat) = 7 + 0 from rfl, stp_bi (by decide), if_pos (by first | decide | omega)]; exact k54
      · rw [show (8 : Nat) = 7 + 1 from rfl, stp_bi (by decide), if_neg (by first | decide | omega)]; exact k46
      · rw [stp_mid (by decide) (by decide)]; exact k47
      · rw [stp_mid (by decide) (by decide)]; exact k48
      · rw [stp_mid (by decide) (by decide)]; exact k49
      · rw [stp_mid (by decide) (by decide)]; exact k50
      · rw [show (13 : Nat) = 13 + 0 from rfl, stp_sl (by decide), if_pos (by first | decide | omega)]; exact k55
      · rw [show (14 : Nat) = 13 + 1 from rfl, stp_sl (by decide), if_neg (by first | decide | omega)]; exact k51
      · rw [show (15 : Nat) = 15 + 0 from rfl, stp_ha (by decide), if_pos (by first | decide | omega)]; exact k53
      · rw [show (16 : Nat) = 15 + 1 from rfl, stp_ha (by decide), if_neg (by first | decide | omega)]; exact k52
    · rw [if_neg (Nat.not_lt_zero i)]
      exact (e121 399 (991 + i) (by first | decide | omega)).trans (show ai_hv t0 399 (991 + i) = some (.inl (σ (1 + i))) from by have h9 := hσ (1 + i) (by first | decide | omega); rw [show 990 + (1 + i) = 991 + i by omega] at h9; exact h9)
  · refine en_u_ex (d := d + 4) rfl ?_
    show en_ex _ _ _ _ (0, [(0, gx_r 383), (1, .inl 990)], [], t0, n, 0) _
    refine ex_go (S := (1, [(0, gx_r 383), (1, .inl 990)], [.inl 0], t0, n, 0)) rfl (fun _ => rfl) rfl ?_
    refine ex_go (S := (2, [(2, .inl 0), (0, gx_r 383), (1, .inl 990)], [], t0, n, 0)) rfl (fun _ => rfl) rfl ?_
    refine ex_go (S := (3, [(2, .inl 0), (0, gx_r 383), (1, .inl 990)], [.inl 0], t0, n, 0)) rfl (fun _ => rfl) rfl ?_
    refine ex_go (S := (4, [(3, .inl 0), (2, .inl 0), (0, gx_r 383), (1, .inl 990)], [], t0, n, 0)) rfl (fun _ => rfl) rfl ?_
    refine sr_pc990_0 d n (σ := σ) (e := 0) g0 hR (by first | decide | omega) q0 q7 q11 q13 hb0 hb7 hb11 hb13 (by first | decide | omega) rfl rfl rfl rfl (fun cl121 t121 g121 e121 a121 b121 c121 l1210 l1211 l1212 l1213 => ?_)
    have k22 : ai_hv t121 399 990 = some (.inl (σ 0)) := (e121 399 990 (by first | decide | omega)).trans q0
    have k23 : ai_hv t121 399 998 = some (.inl (σ 8)) := (e121 399 998 (by first | decide | omega)).trans q8
    have k24 : ai_hv t121 399 999 = some (.inl (σ 9)) := (e121 399 999 (by first | decide | omega)).trans q9
    have k25 : ai_hv t121 399 1000 = some (.inl (σ 10)) := (e121 399 1000 (by first | decide | omega)).trans q10
    have k26 : ai_hv t121 399 1001 = some (.inl (σ 11)) := (e121 399 1001 (by first | decide | omega)).trans q11
    have k27 : ai_hv t121 399 1002 = some (.inl (σ 12)) := (e121 399 1002 (by first | decide | omega)).trans q12
    have k28 : ai_hv t121 399 1004 = some (.inl (σ 14)) := (e121 399 1004 (by first | decide | omega)).trans q14
    have k29 : ai_hv t121 399 1006 = some (.inl (σ 16)) := (e121 399 1006 (by first | decide | omega)).trans q16
    refine sr_pc990_1 d n (σ := σ) (e := 0 + meal w L σ 0) g121 (RW_keep hR (fun i hi => e121 389 i (by first | decide | omega)) (fun c i hc _ => e121 c i (by first | decide | omega))) (by first | decide | omega) k22 k23 k27 k28 hb0 hb8 hb12 hb14 (by first | decide | omega) l1210 l1211 l1212 l1213 (fun cl130 t130 g130 e130 a130 b130 c130 l1300 l1301 l1302 l1303 => ?_)
    have k31 : ai_hv t130 399 990 = some (.inl (σ 0)) := (e130 399 990 (by first | decide | omega)).trans k22
    have k32 : ai_hv t130 399 999 = some (.inl (σ 9)) := (e130 399 999 (by first | decide | omega)).trans k24
    have k33 : ai_hv t130 399 1000 = some (.inl (σ 10)) := (e130 399 1000 (by first | decide | omega)).trans k25
    have k34 : ai_hv t130 399 1001 = some (.inl (σ 11)) := (e130 399 1001 (by first | decide | omega)).trans k26
    have k35 : ai_hv t130 399 1002 = some (.inl (σ 12)) := (e130 399 1002 (by first | decide | omega)).trans k27
    have k36 : ai_hv t130 399 1005 = some (.inl 0) := (e130 399 1005 (by first | decide | omega)).trans a121
    have k37 : ai_hv t130 399 997 = some (.inl (σ 7 - meal w L σ 0)) := (e130 399 997 (by first | decide | omega)).trans b121
    have k38 : ai_hv t130 399 1003 = some (.inl (if σ 11 = 1 then fto w (σ 13) else 0)) := (e130 399 1003 (by first | decide | omega)).trans c121
    refine gx_ld (i := 3) (d := 0) (v := .inl 2) rfl (fun _ => rfl) l1303 rfl rfl ?_
    refine gx_ld (i := 0) (d := 2) (v := gx_r 383) rfl (fun _ => rfl) l1300 rfl rfl ?_
    obtain ⟨_, r39, rfl⟩ := sr_crews (d + 3) n g130 (by have h9 := (e130 389 4 (by first | decide | omega)).trans ((e121 389 4 (by first | decide | omega)).trans (kK)); rw [hK9] at h9; exact h9)
    refine gx_call1 rfl rfl g130 rfl rfl r39 rfl ?_
    show en_ex _ _ _ _ (9, cl130, [.inl 2, .inl 2], t130, n, 0) _
    refine ex_go (S := (156, cl130, [], t130, n, 0)) rfl (fun _ => rfl) rfl ?_
    refine ex_go (S := (157, cl130, [.inl 0], t130, n, 0)) rfl (fun _ => rfl) rfl ?_
    refine gx_sto (i := 3) (d := 0) rfl (fun _ => rfl) rfl rfl (fun l40 hl40 ml40 => ?_)
    have l40_0 : en_ld l40 0 = some (gx_r 383) := ml40 0 _ l1300 rfl
    have l40_1 : en_ld l40 1 = some (.inl 990) := ml40 1 _ l1301 rfl
    have l40_2 : en_ld l40 2 = some (.inl ((0 + meal w L σ 0) + meal w L σ 1)) := ml40 2 _ l1302 rfl
    refine sr_pt990 d n (tb := t130) (w := w) (L := L) (P := fun i => σ (1 + i)) (e := (0 + meal w L σ 0) + meal w L σ 1) (RW_keep hR (fun i hi => (e130 389 i (by first | decide | omega)).trans (e121 389 i (by first | decide | omega))) (fun c i hc _ => (e130 c i (by first | decide | omega)).trans (e121 c i (by first | decide | omega)))) hb1 (fun cl141 t141 g141 e141 i141 l1410 l1411 l1412 => ?_) (w 0 2) 0 _ _ (by first | decide | omega) g130 (fun _ _ _ => rfl) (fun i hi => ?_) l40_0 l40_1 l40_2 hl40
    · have k42 : ai_hv t141 399 990 = some (.inl (σ 0)) := (e141 399 990 (by first | decide | omega)).trans k31
      have k43 : ai_hv t141 399 999 = some (.inl (σ 9)) := (e141 399 999 (by first | decide | omega)).trans k32
      have k44 : ai_hv t141 399 1000 = some (.inl (σ 10)) := (e141 399 1000 (by first | decide | omega)).trans k33
      have k45 : ai_hv t141 399 1001 = some (.inl (σ 11)) := (e141 399 1001 (by first | decide | omega)).trans k34
      have k46 : ai_hv t141 399 1002 = some (.inl (σ 12)) := (e141 399 1002 (by first | decide | omega)).trans k35
      have k47 : ai_hv t141 399 1005 = some (.inl 0) := (e141 399 1005 (by first | decide | omega)).trans k36
      have k48 : ai_hv t141 399 997 = some (.inl (σ 7 - meal w L σ 0)) := (e141 399 997 (by first | decide | omega)).trans k37
      have k49 : ai_hv t141 399 1003 = some (.inl (if σ 11 = 1 then fto w (σ 13) else 0)) := (e141 399 1003 (by first | decide | omega)).trans k38
      have k50 : ai_hv t141 399 1006 = some (.inl 0) := (e141 399 1006 (by first | decide | omega)).trans a130
      have k51 : ai_hv t141 399 998 = some (.inl (σ 8 - meal w L σ 1)) := (e141 399 998 (by first | decide | omega)).trans b130
      have k52 : ai_hv t141 399 1004 = some (.inl (if σ 12 = 1 then fto w (σ 14) else 0)) := (e141 399 1004 (by first | decide | omega)).trans c130
      refine gx_ld (i := 0) (d := 2) (v := gx_r 383) rfl (fun _ => rfl) l1410 rfl rfl ?_
      refine gx_ref (c := 399) rfl g141 rfl rfl rfl rfl ?_
      refine gx_ld (i := 1) (d := 0) (v := .inl 990) rfl (fun _ => rfl) l1411 rfl rfl ?_
      refine ex_go (S := (202, cl141, [.inl 0, .inl 990, gx_r 399], t141, n, 0)) rfl (fun _ => rfl) rfl ?_
      refine ex_go (S := (203, cl141, [.inl 990, gx_r 399], t141, n, 0)) rfl (fun _ => rfl) rfl ?_
      refine ex_go (S := (204, cl141, [.inl 990, gx_r 399, .inl 990, gx_r 399], t141, n, 0)) rfl (fun _ => rfl) rfl ?_
      refine gx_ag (v := .inl (σ 0)) (cb := fun c => Nat.beq c 0) rfl (fun _ => rfl) g141 rfl rfl k42 (by first | decide | omega) rfl ?_
      refine ex_go (S := (206, cl141, [.inl 1, .inl (σ 0), .inl 990, gx_r 399], t141, n, 0)) rfl (fun _ => rfl) rfl ?_
      have hw53 : en_wrap ((σ 0) + 1) < 4294967296 := wrap_lt
      refine gs_iaddx rfl rfl ?_
      refine gx_ap rfl (fun _ => rfl) g141 rfl rfl rfl (show 990 < 1035 from by omega) rfl (gx_full (by first | decide | omega)) rfl (fun t154 g154 k154 e154 => ?_)
      have k55 : ai_hv t154 399 999 = some (.inl (σ 9)) := (e154 399 999 (by first | decide | omega)).trans k43
      have k56 : ai_hv t154 399 1000 = some (.inl (σ 10)) := (e154 399 1000 (by first | decide | omega)).trans k44
      have k57 : ai_hv t154 399 1001 = some (.inl (σ 11)) := (e154 399 1001 (by first | decide | omega)).trans k45
      have k58 : ai_hv t154 399 1002 = some (.inl (σ 12)) := (e154 399 1002 (by first | decide | omega)).trans k46
      have k59 : ai_hv t154 399 1005 = some (.inl 0) := (e154 399 1005 (by first | decide | omega)).trans k47
      have k60 : ai_hv t154 399 997 = some (.inl (σ 7 - meal w L σ 0)) := (e154 399 997 (by first | decide | omega)).trans k48
      have k61 : ai_hv t154 399 1003 = some (.inl (if σ 11 = 1 then fto w (σ 13) else 0)) := (e154 399 1003 (by first | decide | omega)).trans k49
      have k62 : ai_hv t154 399 1006 = some (.inl 0) := (e154 399 1006 (by first | decide | omega)).trans k50
      have k63 : ai_hv t154 399 998 = some (.inl (σ 8 - meal w L σ 1)) := (e154 399 998 (by first | decide | omega)).trans k51
      have k64 : ai_hv t154 399 1004 = some (.inl (if σ 12 = 1 then fto w (σ 14) else 0)) := (e154 399 1004 (by first | decide | omega)).trans k52
      refine gx_ld (i := 2) (d := 0) (v := .inl ((0 + meal w L σ 0) + meal w L σ 1)) rfl (fun _ => rfl) l1412 rfl rfl ?_
      refine ex_ret (r := (some (.inl ((0 + meal w L σ 0) + meal w L σ 1)), t154, n, 0)) rfl (fun _ => rfl) ?_
      have he9 : eaten w L σ = (0 + meal w L σ 0) + meal w L σ 1 := by unfold eaten; rw [hK9]; rw [if_pos (by decide), if_pos (by decide)]; omega
      refine ⟨_, rfl, t154, by rw [he9], g154, (fun c i h => (e154 c i (by first | decide | omega)).trans ((e141 c i (by first | decide | omega)).trans ((e130 c i (by first | decide | omega)).trans (e121 c i (by first | decide | omega))))), fun j hj => ?_⟩
      rcases (show j = 0 ∨ (1 ≤ j ∧ j ≤ 6) ∨ j = 7 ∨ j = 8 ∨ j = 9 ∨ j = 10 ∨ j = 11 ∨ j = 12 ∨ j = 13 ∨ j = 14 ∨ j = 15 ∨ j = 16 by omega) with rfl | hj6 | rfl | rfl | rfl | rfl | rfl | rfl | rfl | rfl | rfl | rfl
      · rw [stp_0]; exact k154
      · obtain ⟨i, rfl, hi⟩ : ∃ i, j = 1 + i ∧ i < 6 := ⟨j - 1, by omega, by omega⟩
        rw [stp_pl hi, show 990 + (1 + i) = 991 + i by omega]
        exact (e154 399 (991 + i) (by first | decide | omega)).trans (i141 i hi)
      · rw [show (7 : Nat) = 7 + 0 from rfl, stp_bi (by decide), if_pos (by first | decide | omega)]; exact k60
      · rw [show (8 : Nat) = 7 + 1 from rfl, stp_bi (by decide), if_pos (by first | decide | omega)]; exact k63
      · rw [stp_mid (by decide) (by decide)]; exact k55
      · rw [stp_mid (by decide) (by decide)]; exact k56
      · rw [stp_mid (by decide) (by decide)]; exact k57
      · rw [stp_mid (by decide) (by decide)]; exact k58
      · rw [show (13 : Nat) = 13 + 0 from rfl, stp_sl (by decide), if_pos (by first | decide | omega)]; exact k61
      · rw [show (14 : Nat) = 13 + 1 from rfl, stp_sl (by decide), if_pos (by first | decide | omega)]; exact k64
      · rw [show (15 : Nat) = 15 + 0 from rfl, stp_ha (by decide), if_pos (by first | decide | omega)]; exact k59
      · rw [show (16 : Nat) = 15 + 1 from rfl, stp_ha (by decide), if_pos (by first | decide | omega)]; exact k62
    · rw [if_neg (Nat.not_lt_zero i)]
      exact ((e130 399 (991 + i) (by first | decide | omega)).trans (e121 399 (991 + i) (by first | decide | omega))).trans (show ai_hv t0 399 (991 + i) = some (.inl (σ (1 + i))) from by have h9 := hσ (1 + i) (by first | decide | omega); rw [show 990 + (1 + i) = 991 + i by omega] at h9; exact h9)
theorem sr_kindOf (d n : Nat) {t0 : en_H} {w : Nat → Nat → Nat} {L : List Nat} {i : Nat} (g0 : ai_HG ah_G t0) (hR : RW t0 w L) (hi : i < w 0 2) : ∃ r, en_u (d + 1) 110 [gx_r 383, .inl i] t0 n = some r ∧ r = (some (.inl (w 5 i)), t0, n, 0) := by
  have hT := hR.2.1.2.2.1
  have kk := (hR.2.2.2.2.1 i hi).1
  refine en_u_ex rfl ?_
  show en_ex _ _ _ _ (0, [(0, gx_r 383), (1, .inl i)], [], t0, n, 0) _
  refine ex_go (S := (1, [(0, gx_r 383), (1, .inl i)], [gx_r 383], t0, n, 0)) rfl (fun _ => rfl) rfl ?_
  refine gx_ref (c := 389) rfl g0 rfl rfl rfl rfl ?_
  refine ex_go (S := (6, [(0, gx_r 383), (1, .inl i)], [.inl 76, gx_r 389], t0, n, 0)) rfl (fun _ => rfl) rfl ?_
  refine ex_go (S := (7, [(0, gx_r 383), (1, .inl i)], [.inl 3, .inl 76, gx_r 389], t0, n, 0)) rfl (fun _ => rfl) rfl ?_
  refine ex_go (S := (8, [(0, gx_r 383), (1, .inl i)], [.inl i, .inl 3, .inl 76, gx_r 389], t0, n, 0)) rfl (fun _ => rfl) rfl ?_
  refine gx_imul rfl (by first | decide | omega) rfl ?_
  refine ex_iadd rfl (by first | decide | omega) rfl ?_
  refine gx_ag (v := .inl (w 5 i)) (cb := fun c => Nat.beq c 0) rfl (fun _ => rfl) g0 rfl rfl kk (by first | decide | omega) rfl ?_
  refine ex_ret (r := (some (.inl (w 5 i)), t0, n, 0)) rfl (fun _ => rfl) ?_
  exact ⟨_, rfl, rfl⟩
theorem sr_draw (d n : Nat) {t0 : en_H} {g : Nat} (g0 : ai_HG ah_G t0) (kg : ai_hv t0 383 40 = some (.inr (.inl g))) (hg : g < 2147483648) : ∃ r, en_u (d + 1) 167 [gx_r 383, .inl 10] t0 n = some r ∧ ∃ t', r = (some (.inl (dv (dr1 g))), t', n, 0) ∧ ai_HG ah_G t' ∧ (∀ c i, ¬ (c = 383 ∧ i = 40) → ai_hv t' c i = ai_hv t0 c i) ∧ ai_hv t' 383 40 = some (.inr (.inl (dr1 g))) := by
  refine en_u_ex rfl ?_
  show en_ex _ _ _ _ (0, [(0, gx_r 383), (1, .inl 10)], [], t0, n, 0) _
  refine ex_go (S := (1, [(0, gx_r 383), (1, .inl 10)], [gx_r 383], t0, n, 0)) rfl (fun _ => rfl) rfl ?_
  refine ex_go (S := (2, [(0, gx_r 383), (1, .inl 10)], [gx_r 383, gx_r 383], t0, n, 0)) rfl (fun _ => rfl) rfl ?_
  refine gx_get rfl g0 rfl kg rfl ?_
  refine ex_go (S := (8, [(0, gx_r 383), (1, .inl 10)], [.inr (.inl 1103515245), .inr (.inl g), gx_r 383], t0, n, 0)) rfl (fun _ => rfl) rfl ?_
  refine ex_go (S := (9, [(0, gx_r 383), (1, .inl 10)], [.inr (.inl ((lN g * lN 1103515245).toBitVec.toNat)), gx_r 383], t0, n, 0)) rfl (fun _ => rfl) rfl ?_
  rw [sp_lmul (show g * 1103515245 < 18446744073709551616 from by omega)]
  refine ex_go (S := (12, [(0, gx_r 383), (1, .inl 10)], [.inr (.inl 12345), .inr (.inl (g * 1103515245)), gx_r 383], t0, n, 0)) rfl (fun _ => rfl) rfl ?_
  refine ex_go (S := (13, [(0, gx_r 383), (1, .inl 10)], [.inr (.inl ((lN (g * 1103515245) + lN 12345).toBitVec.toNat)), gx_r 383], t0, n, 0)) rfl (fun _ => rfl) rfl ?_
  rw [sp_ladd (show (g * 1103515245) + 12345 < 18446744073709551616 from by omega)]
  refine ex_go (S := (16, [(0, gx_r 383), (1, .inl 10)], [.inr (.inl 2147483648), .inr (.inl ((g * 1103515245) + 12345)), gx_r 383], t0, n, 0)) rfl (fun _ => rfl) rfl ?_
  refine gx_lremn rfl (by first | decide | omega) (by first | decide | omega) (by first | decide | omega) rfl ?_
  refine gxo_putr (a := 383) (h := .inr (.inl 0)) rfl g0 rfl rfl rfl ⟨_, rfl⟩ rfl (fun t121 g121 k121 e121 => ?_)
  refine ex_go (S := (21, [(0, gx_r 383), (1, .inl 10)], [gx_r 383], t121, n, 0)) rfl (fun _ => rfl) rfl ?_
  refine gx_get rfl g121 rfl k121 rfl ?_
  refine ex_go (S := (27, [(0, gx_r 383), (1, .inl 10)], [.inr (.inl 65536), .inr (.inl (((g * 1103515245) + 12345) % 2147483648))], t121, n, 0)) rfl (fun _ => rfl) rfl ?_
  refine gx_ldivn rfl (by first | decide | omega) (by first | decide | omega) (by first | decide | omega) rfl ?_
  refine ex_go (S := (29, [(0, gx_r 383), (1, .inl 10)], [.inl 10, .inr (.inl ((((g * 1103515245) + 12345) % 2147483648) / 65536))], t121, n, 0)) rfl (fun _ => rfl) rfl ?_
  refine ex_go (S := (30, [(0, gx_r 383), (1, .inl 10)], [.inr (.inl ((nI 10).toInt64.toBitVec.toNat)), .inr (.inl ((((g * 1103515245) + 12345) % 2147483648) / 65536))], t121, n, 0)) rfl (fun _ => rfl) rfl ?_
  rw [sp_i2l (show 10 < 2147483648 from by omega)]
  refine gx_lremn rfl (by first | decide | omega) (by first | decide | omega) (by first | decide | omega) rfl ?_
  refine ex_go (S := (32, [(0, gx_r 383), (1, .inl 10)], [.inl ((lN (((((g * 1103515245) + 12345) % 2147483648) / 65536) % 10)).toInt32.toBitVec.toNat)], t121, n, 0)) rfl (fun _ => rfl) rfl ?_
  rw [zk_l2i (show ((((g * 1103515245) + 12345) % 2147483648) / 65536) % 10 < 2147483648 from by omega)]
  refine ex_ret (r := (some (.inl (((((g * 1103515245) + 12345) % 2147483648) / 65536) % 10)), t121, n, 0)) rfl (fun _ => rfl) ?_
  exact ⟨_, rfl, t121, rfl, g121, (fun c i h => e121 c i (by first | decide | omega)), k121⟩
theorem sr_onFrom9 (d n : Nat) {t0 : en_H} {w : Nat → Nat → Nat} {L : List Nat} {p s : Nat} (g0 : ai_HG ah_G t0) (hR : RW t0 w L) (hp : p < 64) (hs : s ≤ 9) : ∃ r, en_u (d + 2) 168 [gx_r 383, .inl p, .inl s] t0 n = some r ∧ r = (some (.inl (nb (w 0 0) (w 0 1) p s)), t0, n, 0) := by
  by_cases h4 : s ≤ 4
  · exact sr_onFrom d n g0 hR hp h4
  have kO := hR.1 0 (by first | decide | omega)
  have kD := hR.1 1 (by first | decide | omega)
  have hO := hR.2.1.1
  have hD := hR.2.1.2.1
  have hz0 := gz_or (k := p / 8)
  have hz1 := gz_or (k := p % 8)
  rcases (show s = 5 ∨ s = 6 ∨ s = 7 ∨ s = 8 ∨ s = 9 by omega) with rfl | rfl | rfl | rfl | rfl
  · refine en_u_ex (d := d + 1) rfl ?_
    show en_ex _ _ _ _ (0, [(0, gx_r 383), (1, .inl p), (2, .inl 5)], [], t0, n, 0) _
    refine ex_go (S := (1, [(0, gx_r 383), (1, .inl p), (2, .inl 5)], [.inl p], t0, n, 0)) rfl (fun _ => rfl) rfl ?_
    refine ex_go (S := (3, [(0, gx_r 383), (1, .inl p), (2, .inl 5)], [.inl 8, .inl p], t0, n, 0)) rfl (fun _ => rfl) rfl ?_
    refine gx_iremn rfl (by first | decide | omega) (by first | decide | omega) (by first | decide | omega) rfl ?_
    refine ex_go (S := (5, [(0, gx_r 383), (1, .inl p), (2, .inl 5)], [.inl 5, .inl (p % 8)], t0, n, 0)) rfl (fun _ => rfl) rfl ?_
    refine ex_go (S := (6, [(0, gx_r 383), (1, .inl p), (2, .inl 5)], [.inl 1, .inl 5, .inl (p % 8)], t0, n, 0)) rfl (fun _ => rfl) rfl ?_
    refine ex_go (S := (13, [(0, gx_r 383), (1, .inl p), (2, .inl 5)], [.inl (p % 8)], t0, n, 0)) rfl (fun _ => rfl) rfl ?_
    refine ex_go (S := (14, [(0, gx_r 383), (1, .inl p), (2, .inl 5)], [.inl 5, .inl (p % 8)], t0, n, 0)) rfl (fun _ => rfl) rfl ?_
    refine ex_go (S := (15, [(0, gx_r 383), (1, .inl p), (2, .inl 5)], [.inl 3, .inl 5, .inl (p % 8)], t0, n, 0)) rfl (fun _ => rfl) rfl ?_
    refine ex_go (S := (22, [(0, gx_r 383), (1, .inl p), (2, .inl 5)], [.inl (p % 8)], t0, n, 0)) rfl (fun _ => rfl) rfl ?_
    refine ex_go (S := (23, [(0, gx_r 383), (1, .inl p), (2, .inl 5)], [.inl 0, .inl (p % 8)], t0, n, 0)) rfl (fun _ => rfl) rfl ?_
    refine ex_iadd rfl (by first | decide | omega) rfl ?_
    refine ex_go (S := (25, [(3, .inl ((p % 8) + 0)), (0, gx_r 383), (1, .inl p), (2, .inl 5)], [], t0, n, 0)) rfl (fun _ => rfl) rfl ?_
    refine ex_go (S := (26, [(3, .inl ((p % 8) + 0)), (0, gx_r 383), (1, .inl p), (2, .inl 5)], [.inl p], t0, n, 0)) rfl (fun _ => rfl) rfl ?_
    refine ex_go (S := (28, [(3, .inl ((p % 8) + 0)), (0, gx_r 383), (1, .inl p), (2, .inl 5)], [.inl 8, .inl p], t0, n, 0)) rfl (fun _ => rfl) rfl ?_
    refine gx_idivn rfl (by first | decide | omega) (by first | decide | omega) (by first | decide | omega) rfl ?_
    refine ex_go (S := (30, [(3, .inl ((p % 8) + 0)), (0, gx_r 383), (1, .inl p), (2, .inl 5)], [.inl 5, .inl (p / 8)], t0, n, 0)) rfl (fun _ => rfl) rfl ?_
    refine ex_go (S := (31, [(3, .inl ((p % 8) + 0)), (0, gx_r 383), (1, .inl p), (2, .inl 5)], [.inl 2, .inl 5, .inl (p / 8)], t0, n, 0)) rfl (fun _ => rfl) rfl ?_
    refine ex_go (S := (38, [(3, .inl ((p % 8) + 0)), (0, gx_r 383), (1, .inl p), (2, .inl 5)], [.inl (p / 8)], t0, n, 0)) rfl (fun _ => rfl) rfl ?_
    refine ex_go (S := (39, [(3, .inl ((p % 8) + 0)), (0, gx_r 383), (1, .inl p), (2, .inl 5)], [.inl 5, .inl (p / 8)], t0, n, 0)) rfl (fun _ => rfl) rfl ?_
    refine ex_go (S := (46, [(3, .inl ((p % 8) + 0)), (0, gx_r 383), (1, .inl p), (2, .inl 5)], [.inl (p / 8)], t0, n, 0)) rfl (fun _ => rfl) rfl ?_
    refine ex_go (S := (47, [(3, .inl ((p % 8) + 0)), (0, gx_r 383), (1, .inl p), (2, .inl 5)], [.inl 0, .inl (p / 8)], t0, n, 0)) rfl (fun _ => rfl) rfl ?_
    refine ex_iadd rfl (by first | decide | omega) rfl ?_
    refine ex_go (S := (50, [(4, .inl ((p / 8) + 0)), (3, .inl ((p % 8) + 0)), (0, gx_r 383), (1, .inl p), (2, .inl 5)], [], t0, n, 0)) rfl (fun _ => rfl) rfl ?_
    refine ex_go (S := (51, [(4, .inl ((p / 8) + 0)), (3, .inl ((p % 8) + 0)), (0, gx_r 383), (1, .inl p), (2, .inl 5)], [gx_r 383], t0, n, 0)) rfl (fun _ => rfl) rfl ?_
    refine ex_go (S := (52, [(4, .inl ((p / 8) + 0)), (3, .inl ((p % 8) + 0)), (0, gx_r 383), (1, .inl p), (2, .inl 5)], [.inl ((p % 8) + 0), gx_r 383], t0, n, 0)) rfl (fun _ => rfl) rfl ?_
    refine ex_go (S := (54, [(4, .inl ((p / 8) + 0)), (3, .inl ((p % 8) + 0)), (0, gx_r 383), (1, .inl p), (2, .inl 5)], [.inl ((p / 8) + 0), .inl ((p % 8) + 0), gx_r 383], t0, n, 0)) rfl (fun _ => rfl) rfl ?_
    obtain ⟨_, r121, b121, rfl, hb121, hi121⟩ := pe_isPlace d n (x := (p % 8) + 0) (y := (p / 8) + 0) (o := w 0 0) (e := w 0 1) g0 kO kD (by first | decide | omega) (by first | decide | omega) (by first | decide | omega) (by first | decide | omega)
    refine gx_call1 rfl rfl g0 rfl rfl r121 rfl ?_
    show en_ex _ _ _ _ (57, [(4, .inl ((p / 8) + 0)), (3, .inl ((p % 8) + 0)), (0, gx_r 383), (1, .inl p), (2, .inl 5)], [.inl b121], t0, n, 0) _
    by_cases hc22 : b121 = 0
    · refine gx_1t (c := .eq) rfl (by first | decide | omega) hc22 rfl ?_
      refine ex_go (S := (71, [(4, .inl ((p / 8) + 0)), (3, .inl ((p % 8) + 0)), (0, gx_r 383), (1, .inl p), (2, .inl 5)], [.inl p], t0, n, 0)) rfl (fun _ => rfl) rfl ?_
      refine ex_ret (r := (some (.inl p), t0, n, 0)) rfl (fun _ => rfl) ?_
      have e9 : nb (w 0 0) (w 0 1) p 5 = p := by rw [nb_ge (by decide)]
      exact ⟨_, rfl, by rw [e9]⟩
    · refine gx_1f (c := .eq) rfl (by first | decide | omega) hc22 rfl ?_
      refine ex_go (S := (62, [(4, .inl ((p / 8) + 0)), (3, .inl ((p % 8) + 0)), (0, gx_r 383), (1, .inl p), (2, .inl 5)], [.inl 8], t0, n, 0)) rfl (fun _ => rfl) rfl ?_
      refine ex_go (S := (64, [(4, .inl ((p / 8) + 0)), (3, .inl ((p % 8) + 0)), (0, gx_r 383), (1, .inl p), (2, .inl 5)], [.inl ((p / 8) + 0), .inl 8], t0, n, 0)) rfl (fun _ => rfl) rfl ?_
      refine gx_imul rfl (by first | decide | omega) rfl ?_
      refine ex_go (S := (66, [(4, .inl ((p / 8) + 0)), (3, .inl ((p % 8) + 0)), (0, gx_r 383), (1, .inl p), (2, .inl 5)], [.inl ((p % 8) + 0), .inl (8 * ((p / 8) + 0))], t0, n, 0)) rfl (fun _ => rfl) rfl ?_
      refine ex_iadd rfl (by first | decide | omega) rfl ?_
      refine ex_go (S := (71, [(4, .inl ((p / 8) + 0)), (3, .inl ((p % 8) + 0)), (0, gx_r 383), (1, .inl p), (2, .inl 5)], [.inl ((8 * ((p / 8) + 0)) + ((p % 8) + 0))], t0, n, 0)) rfl (fun _ => rfl) rfl ?_
      refine ex_ret (r := (some (.inl ((8 * ((p / 8) + 0)) + ((p % 8) + 0))), t0, n, 0)) rfl (fun _ => rfl) ?_
      have e9 : nb (w 0 0) (w 0 1) p 5 = (8 * ((p / 8) + 0)) + ((p % 8) + 0) := by rw [nb_ge (by decide)]; omega
      exact ⟨_, rfl, by rw [e9]⟩
  · refine en_u_ex (d := d + 1) rfl ?_
    show en_ex _ _ _ _ (0, [(0, gx_r 383), (1, .inl p), (2, .inl 6)], [], t0, n, 0) _
    refine ex_go (S := (1, [(0, gx_r 383), (1, .inl p), (2, .inl 6)], [.inl p], t0, n, 0)) rfl (fun _ => rfl) rfl ?_
    refine ex_go (S := (3, [(0, gx_r 383), (1, .inl p), (2, .inl 6)], [.inl 8, .inl p], t0, n, 0)) rfl (fun _ => rfl) rfl ?_
    refine gx_iremn rfl (by first | decide | omega) (by first | decide | omega) (by first | decide | omega) rfl ?_
    refine ex_go (S := (5, [(0, gx_r 383), (1, .inl p), (2, .inl 6)], [.inl 6, .inl (p % 8)], t0, n, 0)) rfl (fun _ => rfl) rfl ?_
    refine ex_go (S := (6, [(0, gx_r 383), (1, .inl p), (2, .inl 6)], [.inl 1, .inl 6, .inl (p % 8)], t0, n, 0)) rfl (fun _ => rfl) rfl ?_
    refine ex_go (S := (13, [(0, gx_r 383), (1, .inl p), (2, .inl 6)], [.inl (p % 8)], t0, n, 0)) rfl (fun _ => rfl) rfl ?_
    refine ex_go (S := (14, [(0, gx_r 383), (1, .inl p), (2, .inl 6)], [.inl 6, .inl (p % 8)], t0, n, 0)) rfl (fun _ => rfl) rfl ?_
    refine ex_go (S := (15, [(0, gx_r 383), (1, .inl p), (2, .inl 6)], [.inl 3, .inl 6, .inl (p % 8)], t0, n, 0)) rfl (fun _ => rfl) rfl ?_
    refine ex_go (S := (22, [(0, gx_r 383), (1, .inl p), (2, .inl 6)], [.inl (p % 8)], t0, n, 0)) rfl (fun _ => rfl) rfl ?_
    refine ex_go (S := (23, [(0, gx_r 383), (1, .inl p), (2, .inl 6)], [.inl 0, .inl (p % 8)], t0, n, 0)) rfl (fun _ => rfl) rfl ?_
    refine ex_iadd rfl (by first | decide | omega) rfl ?_
    refine ex_go (S := (25, [(3, .inl ((p % 8) + 0)), (0, gx_r 383), (1, .inl p), (2, .inl 6)], [], t0, n, 0)) rfl (fun _ => rfl) rfl ?_
    refine ex_go (S := (26, [(3, .inl ((p % 8) + 0)), (0, gx_r 383), (1, .inl p), (2, .inl 6)], [.inl p], t0, n, 0)) rfl (fun _ => rfl) rfl ?_
    refine ex_go (S := (28, [(3, .inl ((p % 8) + 0)), (0, gx_r 383), (1, .inl p), (2, .inl 6)], [.inl 8, .inl p], t0, n, 0)) rfl (fun _ => rfl) rfl ?_
    refine gx_idivn rfl (by first | decide | omega) (by first | decide | omega) (by first | decide | omega) rfl ?_
    refine ex_go (S := (30, [(3, .inl ((p % 8) + 0)), (0, gx_r 383), (1, .inl p), (2, .inl 6)], [.inl 6, .inl (p / 8)], t0, n, 0)) rfl (fun _ => rfl) rfl ?_
    refine ex_go (S := (31, [(3, .inl ((p % 8) + 0)), (0, gx_r 383), (1, .inl p), (2, .inl 6)], [.inl 2, .inl 6, .inl (p / 8)], t0, n, 0)) rfl (fun _ => rfl) rfl ?_
    refine ex_go (S := (38, [(3, .inl ((p % 8) + 0)), (0, gx_r 383), (1, .inl p), (2, .inl 6)], [.inl (p / 8)], t0, n, 0)) rfl (fun _ => rfl) rfl ?_
    refine ex_go (S := (39, [(3, .inl ((p % 8) + 0)), (0, gx_r 383), (1, .inl p), (2, .inl 6)], [.inl 6, .inl (p / 8)], t0, n, 0)) rfl (fun _ => rfl) rfl ?_
    refine ex_go (S := (46, [(3, .inl ((p % 8) + 0)), (0, gx_r 383), (1, .inl p), (2, .inl 6)], [.inl (p / 8)], t0, n, 0)) rfl (fun _ => rfl) rfl ?_
    refine ex_go (S := (47, [(3, .inl ((p % 8) + 0)), (0, gx_r 383), (1, .inl p), (2, .inl 6)], [.inl 0, .inl (p / 8)], t0, n, 0)) rfl (fun _ => rfl) rfl ?_
    refine ex_iadd rfl (by first | decide | omega) rfl ?_
    refine ex_go (S := (50, [(4, .inl ((p / 8) + 0)), (3, .inl ((p % 8) + 0)), (0, gx_r 383), (1, .inl p), (2, .inl 6)], [], t0, n, 0)) rfl (fun _ => rfl) rfl ?_
    refine ex_go (S := (51, [(4, .inl ((p / 8) + 0)), (3, .inl ((p % 8) + 0)), (0, gx_r 383), (1, .inl p), (2, .inl 6)], [gx_r 383], t0, n, 0)) rfl (fun _ => rfl) rfl ?_
    refine ex_go (S := (52, [(4, .inl ((p / 8) + 0)), (3, .inl ((p % 8) + 0)), (0, gx_r 383), (1, .inl p), (2, .inl 6)], [.inl ((p % 8) + 0), gx_r 383], t0, n, 0)) rfl (fun _ => rfl) rfl ?_
    refine ex_go (S := (54, [(4, .inl ((p / 8) + 0)), (3, .inl ((p % 8) + 0)), (0, gx_r 383), (1, .inl p), (2, .inl 6)], [.inl ((p / 8) + 0), .inl ((p % 8) + 0), gx_r 383], t0, n, 0)) rfl (fun _ => rfl) rfl ?_
    obtain ⟨_, r121, b121, rfl, hb121, hi121⟩ := pe_isPlace d n (x := (p % 8) + 0) (y := (p / 8) + 0) (o := w 0 0) (e := w 0 1) g0 kO kD (by first | decide | omega) (by first | decide | omega) (by first | decide | omega) (by first | decide | omega)
    refine gx_call1 rfl rfl g0 rfl rfl r121 rfl ?_
    show en_ex _ _ _ _ (57, [(4, .inl ((p / 8) + 0)), (3, .inl ((p % 8) + 0)), (0, gx_r 383), (1, .inl p), (2, .inl 6)], [.inl b121], t0, n, 0) _
    by_cases hc22 : b121 = 0
    · refine gx_1t (c := .eq) rfl (by first | decide | omega) hc22 rfl ?_
      refine ex_go (S := (71, [(4, .inl ((p / 8) + 0)), (3, .inl ((p % 8) + 0)), (0, gx_r 383), (1, .inl p), (2, .inl 6)], [.inl p], t0, n, 0)) rfl (fun _ => rfl) rfl ?_
      refine ex_ret (r := (some (.inl p), t0, n, 0)) rfl (fun _ => rfl) ?_
      have e9 : nb (w 0 0) (w 0 1) p 6 = p := by rw [nb_ge (by decide)]
      exact ⟨_, rfl, by rw [e9]⟩
    · refine gx_1f (c := .eq) rfl (by first | decide | omega) hc22 rfl ?_
      refine ex_go (S := (62, [(4, .inl ((p / 8) + 0)), (3, .inl ((p % 8) + 0)), (0, gx_r 383), (1, .inl p), (2, .inl 6)], [.inl 8], t0, n, 0)) rfl (fun _ => rfl) rfl ?_
      refine ex_go (S := (64, [(4, .inl ((p / 8) + 0)), (3, .inl ((p % 8) + 0)), (0, gx_r 383), (1, .inl p), (2, .inl 6)], [.inl ((p / 8) + 0), .inl 8], t0, n, 0)) rfl (fun _ => rfl) rfl ?_
      refine gx_imul rfl (by first | decide | omega) rfl ?_
      refine ex_go (S := (66, [(4, .inl ((p / 8) + 0)), (3, .inl ((p % 8) + 0)), (0, gx_r 383), (1, .inl p), (2, .inl 6)], [.inl ((p % 8) + 0), .inl (8 * ((p / 8) + 0))], t0, n, 0)) rfl (fun _ => rfl) rfl ?_
      refine ex_iadd rfl (by first | decide | omega) rfl ?_
      refine ex_go (S := (71, [(4, .inl ((p / 8) + 0)), (3, .inl ((p % 8) + 0)), (0, gx_r 383), (1, .inl p), (2, .inl 6)], [.inl ((8 * ((p / 8) + 0)) + ((p % 8) + 0))], t0, n, 0)) rfl (fun _ => rfl) rfl ?_
      refine ex_ret (r := (some (.inl ((8 * ((p / 8) + 0)) + ((p % 8) + 0))), t0, n, 0)) rfl (fun _ => rfl) ?_
      have e9 : nb (w 0 0) (w 0 1) p 6 = (8 * ((p / 8) + 0)) + ((p % 8) + 0) := by rw [nb_ge (by decide)]; omega
      exact ⟨_, rfl, by rw [e9]⟩
  · refine en_u_ex (d := d + 1) rfl ?_
    show en_ex _ _ _ _ (0, [(0, gx_r 383), (1, .inl p), (2, .inl 7)], [], t0, n, 0) _
    refine ex_go (S := (1, [(0, gx_r 383), (1, .inl p), (2, .inl 7)], [.inl p], t0, n, 0)) rfl (fun _ => rfl) rfl ?_
    refine ex_go (S := (3, [(0, gx_r 383), (1, .inl p), (2, .inl 7)], [.inl 8, .inl p], t0, n, 0)) rfl (fun _ => rfl) rfl ?_
    refine gx_iremn rfl (by first | decide | omega) (by first | decide | omega) (by first | decide | omega) rfl ?_
    refine ex_go (S := (5, [(0, gx_r 383), (1, .inl p), (2, .inl 7)], [.inl 7, .inl (p % 8)], t0, n, 0)) rfl (fun _ => rfl) rfl ?_
    refine ex_go (S := (6, [(0, gx_r 383), (1, .inl p), (2, .inl 7)], [.inl 1, .inl 7, .inl (p % 8)], t0, n, 0)) rfl (fun _ => rfl) rfl ?_
    refine ex_go (S := (13, [(0, gx_r 383), (1, .inl p), (2, .inl 7)], [.inl (p % 8)], t0, n, 0)) rfl (fun _ => rfl) rfl ?_
    refine ex_go (S := (14, [(0, gx_r 383), (1, .inl p), (2, .inl 7)], [.inl 7, .inl (p % 8)], t0, n, 0)) rfl (fun _ => rfl) rfl ?_
    refine ex_go (S := (15, [(0, gx_r 383), (1, .inl p), (2, .inl 7)], [.inl 3, .inl 7, .inl (p % 8)], t0, n, 0)) rfl (fun _ => rfl) rfl ?_
    refine ex_go (S := (22, [(0, gx_r 383), (1, .inl p), (2, .inl 7)], [.inl (p % 8)], t0, n, 0)) rfl (fun _ => rfl) rfl ?_
    refine ex_go (S := (23, [(0, gx_r 383), (1, .inl p), (2, .inl 7)], [.inl 0, .inl (p % 8)], t0, n, 0)) rfl (fun _ => rfl) rfl ?_
    refine ex_iadd rfl (by first | decide | omega) rfl ?_
    refine ex_go (S := (25, [(3, .inl ((p % 8) + 0)), (0, gx_r 383), (1, .inl p), (2, .inl 7)], [], t0, n, 0)) rfl (fun _ => rfl) rfl ?_
    refine ex_go (S := (26, [(3, .inl ((p % 8) + 0)), (0, gx_r 383), (1, .inl p), (2, .inl 7)], [.inl p], t0, n, 0)) rfl (fun _ => rfl) rfl ?_
    refine ex_go (S := (28, [(3, .inl ((p % 8) + 0)), (0, gx_r 383), (1, .inl p), (2, .inl 7)], [.inl 8, .inl p], t0, n, 0)) rfl (fun _ => rfl) rfl ?_
    refine gx_idivn rfl (by first | decide | omega) (by first | decide | omega) (by first | decide | omega) rfl ?_
    refine ex_go (S := (30, [(3, .inl ((p % 8) + 0)), (0, gx_r 383), (1, .inl p), (2, .inl 7)], [.inl 7, .inl (p / 8)], t0, n, 0)) rfl (fun _ => rfl) rfl ?_
    refine ex_go (S := (31, [(3, .inl ((p % 8) + 0)), (0, gx_r 383), (1, .inl p), (2, .inl 7)], [.inl 2, .inl 7, .inl (p / 8)], t0, n, 0)) rfl (fun _ => rfl) rfl ?_
    refine ex_go (S := (38, [(3, .inl ((p % 8) + 0)), (0, gx_r 383), (1, .inl p), (2, .inl 7)], [.inl (p / 8)], t0, n, 0)) rfl (fun _ => rfl) rfl ?_
    refine ex_go (S := (39, [(3, .inl ((p % 8) + 0)), (0, gx_r 383), (1, .inl p), (2, .inl 7)], [.inl 7, .inl (p / 8)], t0, n, 0)) rfl (fun _ => rfl) rfl ?_
    refine ex_go (S := (46, [(3, .inl ((p % 8) + 0)), (0, gx_r 383), (1, .inl p), (2, .inl 7)], [.inl (p / 8)], t0, n, 0)) rfl (fun _ => rfl) rfl ?_
    refine ex_go (S := (47, [(3, .inl ((p % 8) + 0)), (0, gx_r 383), (1, .inl p), (2, .inl 7)], [.inl 0, .inl (p / 8)], t0, n, 0)) rfl (fun _ => rfl) rfl ?_
    refine ex_iadd rfl (by first | decide | omega) rfl ?_
    refine ex_go (S := (50, [(4, .inl ((p / 8) + 0)), (3, .inl ((p % 8) + 0)), (0, gx_r 383), (1, .inl p), (2, .inl 7)], [], t0, n, 0)) rfl (fun _ => rfl) rfl ?_
    refine ex_go (S := (51, [(4, .inl ((p / 8) + 0)), (3, .inl ((p % 8) + 0)), (0, gx_r 383), (1, .inl p), (2, .inl 7)], [gx_r 383], t0, n, 0)) rfl (fun _ => rfl) rfl ?_
    refine ex_go (S := (52, [(4, .inl ((p / 8) + 0)), (3, .inl ((p % 8) + 0)), (0, gx_r 383), (1, .inl p), (2, .inl 7)], [.inl ((p % 8) + 0), gx_r 383], t0, n, 0)) rfl (fun _ => rfl) rfl ?_
    refine ex_go (S := (54, [(4, .inl ((p / 8) + 0)), (3, .inl ((p % 8) + 0)), (0, gx_r 383), (1, .inl p), (2, .inl 7)], [.inl ((p / 8) + 0), .inl ((p % 8) + 0), gx_r 383], t0, n, 0)) rfl (fun _ => rfl) rfl ?_
    obtain ⟨_, r121, b121, rfl, hb121, hi121⟩ := pe_isPlace d n (x := (p % 8) + 0) (y := (p / 8) + 0) (o := w 0 0) (e := w 0 1) g0 kO kD (by first | decide | omega) (by first | decide | omega) (by first | decide | omega) (by first | decide | omega)
    refine gx_call1 rfl rfl g0 rfl rfl r121 rfl ?_
    show en_ex _ _ _ _ (57, [(4, .inl ((p / 8) + 0)), (3, .inl ((p % 8) + 0)), (0, gx_r 383), (1, .inl p), (2, .inl 7)], [.inl b121], t0, n, 0) _
    by_cases hc22 : b121 = 0
    · refine gx_1t (c := .eq) rfl (by first | decide | omega) hc22 rfl ?_
      refine ex_go (S := (71, [(4, .inl ((p / 8) + 0)), (3, .inl ((p % 8) + 0)), (0, gx_r 383), (1, .inl p), (2, .inl 7)], [.inl p], t0, n, 0)) rfl (fun _ => rfl) rfl ?_
      refine ex_ret (r := (some (.inl p), t0, n, 0)) rfl (fun _ => rfl) ?_
      have e9 : nb (w 0 0) (w 0 1) p 7 = p := by rw [nb_ge (by decide)]
      exact ⟨_, rfl, by rw [e9]⟩
    · refine gx_1f (c := .eq) rfl (by first | decide | omega) hc22 rfl ?_
      refine ex_go (S := (62, [(4, .inl ((p / 8) + 0)), (3, .inl ((p % 8) + 0)), (0, gx_r 383), (1, .inl p), (2, .inl 7)], [.inl 8], t0, n, 0)) rfl (fun _ => rfl) rfl ?_
      refine ex_go (S := (64, [(4, .inl ((p / 8) + 0)), (3, .inl ((p % 8) + 0)), (0, gx_r 383), (1, .inl p), (2, .inl 7)], [.inl ((p / 8) + 0), .inl 8], t0, n, 0)) rfl (fun _ => rfl) rfl ?_
      refine gx_imul rfl (by first | decide | omega) rfl ?_
      refine ex_go (S := (66, [(4, .inl ((p / 8) + 0)), (3, .inl ((p % 8) + 0)), (0, gx_r 383), (1, .inl p), (2, .inl 7)], [.inl ((p % 8) + 0), .inl (8 * ((p / 8) + 0))], t0, n, 0)) rfl (fun _ => rfl) rfl ?_
      refine ex_iadd rfl (by first | decide | omega) rfl ?_
      refine ex_go (S := (71, [(4, .inl ((p / 8) + 0)), (3, .inl ((p % 8) + 0)), (0, gx_r 383), (1, .inl p), (2, .inl 7)], [.inl ((8 * ((p / 8) + 0)) + ((p % 8) + 0))], t0, n, 0)) rfl (fun _ => rfl) rfl ?_
      refine ex_ret (r := (some (.inl ((8 * ((p / 8) + 0)) + ((p % 8) + 0))), t0, n, 0)) rfl (fun _ => rfl) ?_
      have e9 : nb (w 0 0) (w 0 1) p 7 = (8 * ((p / 8) + 0)) + ((p % 8) + 0) := by rw [nb_ge (by decide)]; omega
      exact ⟨_, rfl, by rw [e9]⟩
  · refine en_u_ex (d := d + 1) rfl ?_
    show en_ex _ _ _ _ (0, [(0, gx_r 383), (1, .inl p), (2, .inl 8)], [], t0, n, 0) _
    refine ex_go (S := (1, [(0, gx_r 383), (1, .inl p), (2, .inl 8)], [.inl p], t0, n, 0)) rfl (fun _ => rfl) rfl ?_
    refine ex_go (S := (3, [(0, gx_r 383), (1, .inl p), (2, .inl 8)], [.inl 8, .inl p], t0, n, 0)) rfl (fun _ => rfl) rfl ?_
    refine gx_iremn rfl (by first | decide | omega) (by first | decide | omega) (by first | decide | omega) rfl ?_
    refine ex_go (S := (5, [(0, gx_r 383), (1, .inl p), (2, .inl 8)], [.inl 8, .inl (p % 8)], t0, n, 0)) rfl (fun _ => rfl) rfl ?_
    refine ex_go (S := (6, [(0, gx_r 383), (1, .inl p), (2, .inl 8)], [.inl 1, .inl 8, .inl (p % 8)], t0, n, 0)) rfl (fun _ => rfl) rfl ?_
    refine ex_go (S := (13, [(0, gx_r 383), (1, .inl p), (2, .inl 8)], [.inl (p % 8)], t0, n, 0)) rfl (fun _ => rfl) rfl ?_
    refine ex_go (S := (14, [(0, gx_r 383), (1, .inl p), (2, .inl 8)], [.inl 8, .inl (p % 8)], t0, n, 0)) rfl (fun _ => rfl) rfl ?_
    refine ex_go (S := (15, [(0, gx_r 383), (1, .inl p), (2, .inl 8)], [.inl 3, .inl 8, .inl (p % 8)], t0, n, 0)) rfl (fun _ => rfl) rfl ?_
    refine ex_go (S := (22, [(0, gx_r 383), (1, .inl p), (2, .inl 8)], [.inl (p % 8)], t0, n, 0)) rfl (fun _ => rfl) rfl ?_
    refine ex_go (S := (23, [(0, gx_r 383), (1, .inl p), (2, .inl 8)], [.inl 0, .inl (p % 8)], t0, n, 0)) rfl (fun _ => rfl) rfl ?_
    refine ex_iadd rfl (by first | decide | omega) rfl ?_
    refine ex_go (S := (25, [(3, .inl ((p % 8) + 0)), (0, gx_r 383), (1, .inl p), (2, .inl 8)], [], t0, n, 0)) rfl (fun _ => rfl) rfl ?_
    refine ex_go (S := (26, [(3, .inl ((p % 8) + 0)), (0, gx_r 383), (1, .inl p), (2, .inl 8)], [.inl p], t0, n, 0)) rfl (fun _ => rfl) rfl ?_
    refine ex_go (S := (28, [(3, .inl ((p % 8) + 0)), (0, gx_r 383), (1, .inl p), (2, .inl 8)], [.inl 8, .inl p], t0, n, 0)) rfl (fun _ => rfl) rfl ?_
    refine gx_idivn rfl (by first | decide | omega) (by first | decide | omega) (by first | decide | omega) rfl ?_
    refine ex_go (S := (30, [(3, .inl ((p % 8) + 0)), (0, gx_r 383), (1, .inl p), (2, .inl 8)], [.inl 8, .inl (p / 8)], t0, n, 0)) rfl (fun _ => rfl) rfl ?_
    refine ex_go (S := (31, [(3, .inl ((p % 8) + 0)), (0, gx_r 383), (1, .inl p), (2, .inl 8)], [.inl 2, .inl 8, .inl (p / 8)], t0, n, 0)) rfl (fun _ => rfl) rfl ?_
    refine ex_go (S := (38, [(3, .inl ((p % 8) + 0)), (0, gx_r 383), (1, .inl p), (2, .inl 8)], [.inl (p / 8)], t0, n, 0)) rfl (fun _ => rfl) rfl ?_
    refine ex_go (S := (39, [(3, .inl ((p % 8) + 0)), (0, gx_r 383), (1, .inl p), (2, .inl 8)], [.inl 8, .inl (p / 8)], t0, n, 0)) rfl (fun _ => rfl) rfl ?_
    refine ex_go (S := (46, [(3, .inl ((p % 8) + 0)), (0, gx_r 383), (1, .inl p), (2, .inl 8)], [.inl (p / 8)], t0, n, 0)) rfl (fun _ => rfl) rfl ?_
    refine ex_go (S := (47, [(3, .inl ((p % 8) + 0)), (0, gx_r 383), (1, .inl p), (2, .inl 8)], [.inl 0, .inl (p / 8)], t0, n, 0)) rfl (fun _ => rfl) rfl ?_
    refine ex_iadd rfl (by first | decide | omega) rfl ?_
    refine ex_go (S := (50, [(4, .inl ((p / 8) + 0)), (3, .inl ((p % 8) + 0)), (0, gx_r 383), (1, .inl p), (2, .inl 8)], [], t0, n, 0)) rfl (fun _ => rfl) rfl ?_
    refine ex_go (S := (51, [(4, .inl ((p / 8) + 0)), (3, .inl ((p % 8) + 0)), (0, gx_r 383), (1, .inl p), (2, .inl 8)], [gx_r 383], t0, n, 0)) rfl (fun _ => rfl) rfl ?_
    refine ex_go (S := (52, [(4, .inl ((p / 8) + 0)), (3, .inl ((p % 8) + 0)), (0, gx_r 383), (1, .inl p), (2, .inl 8)], [.inl ((p % 8) + 0), gx_r 383], t0, n, 0)) rfl (fun _ => rfl) rfl ?_
    refine ex_go (S := (54, [(4, .inl ((p / 8) + 0)), (3, .inl ((p % 8) + 0)), (0, gx_r 383), (1, .inl p), (2, .inl 8)], [.inl ((p / 8) + 0), .inl ((p % 8) + 0), gx_r 383], t0, n, 0)) rfl (fun _ => rfl) rfl ?_
    obtain ⟨_, r121, b121, rfl, hb121, hi121⟩ := pe_isPlace d n (x := (p % 8) + 0) (y := (p / 8) + 0) (o := w 0 0) (e := w 0 1) g0 kO kD (by first | decide | omega) (by first | decide | omega) (by first | decide | omega) (by first | decide | omega)
    refine gx_call1 rfl rfl g0 rfl rfl r121 rfl ?_
    show en_ex _ _ _ _ (57, [(4, .inl ((p / 8) + 0)), (3, .inl ((p % 8) + 0)), (0, gx_r 383), (1, .inl p), (2, .inl 8)], [.inl b121], t0, n, 0) _
    by_cases hc22 : b121 = 0
    · refine gx_1t (c := .eq) rfl (by first | decide | omega) hc22 rfl ?_
      refine ex_go (S := (71, [(4, .inl ((p / 8) + 0)), (3, .inl ((p % 8) + 0)), (0, gx_r 383), (1, .inl p), (2, .inl 8)], [.inl p], t0, n, 0)) rfl (fun _ => rfl) rfl ?_
      refine ex_ret (r := (some (.inl p), t0, n, 0)) rfl (fun _ => rfl) ?_
      have e9 : nb (w 0 0) (w 0 1) p 8 = p := by rw [nb_ge (by decide)]
      exact ⟨_, rfl, by rw [e9]⟩
    · refine gx_1f (c := .eq) rfl (by first | decide | omega) hc22 rfl ?_
      refine ex_go (S := (62, [(4, .inl ((p / 8) + 0)), (3, .inl ((p % 8) + 0)), (0, gx_r 383), (1, .inl p), (2, .inl 8)], [.inl 8], t0, n, 0)) rfl (fun _ => rfl) rfl ?_
      refine ex_go (S := (64, [(4, .inl ((p / 8) + 0)), (3, .inl ((p % 8) + 0)), (0, gx_r 383), (1, .inl p), (2, .inl 8)], [.inl ((p / 8) + 0), .inl 8], t0, n, 0)) rfl (fun _ => rfl) rfl ?_
      refine gx_imul rfl (by first | decide | omega) rfl ?_
      refine ex_go (S := (66, [(4, .inl ((p / 8) + 0)), (3, .inl ((p % 8) + 0)), (0, gx_r 383), (1, .inl p), (2, .inl 8)], [.inl ((p % 8) + 0), .inl (8 * ((p / 8) + 0))], t0, n, 0)) rfl (fun _ => rfl) rfl ?_
      refine ex_iadd rfl (by first | decide | omega) rfl ?_
      refine ex_go (S := (71, [(4, .inl ((p / 8) + 0)), (3, .inl ((p % 8) + 0)), (0, gx_r 383), (1, .inl p), (2, .inl 8)], [.inl ((8 * ((p / 8) + 0)) + ((p % 8) + 0))], t0, n, 0)) rfl (fun _ => rfl) rfl ?_
      refine ex_ret (r := (some (.inl ((8 * ((p / 8) + 0)) + ((p % 8) + 0))), t0, n, 0)) rfl (fun _ => rfl) ?_
      have e9 : nb (w 0 0) (w 0 1) p 8 = (8 * ((p / 8) + 0)) + ((p % 8) + 0) := by rw [nb_ge (by decide)]; omega
      exact ⟨_, rfl, by rw [e9]⟩
  · refine en_u_ex (d := d + 1) rfl ?_
    show en_ex _ _ _ _ (0, [(0, gx_r 383), (1, .inl p), (2, .inl 9)], [], t0, n, 0) _
    refine ex_go (S := (1, [(0, gx_r 383), (1, .inl p), (2, .inl 9)], [.inl p], t0, n, 0)) rfl (fun _ => rfl) rfl ?_
    refine ex_go (S := (3, [(0, gx_r 383), (1, .inl p), (2, .inl 9)], [.inl 8, .inl p], t0, n, 0)) rfl (fun _ => rfl) rfl ?_
    refine gx_iremn rfl (by first | decide | omega) (by first | decide | omega) (by first | decide | omega) rfl ?_
    refine ex_go (S := (5, [(0, gx_r 383), (1, .inl p), (2, .inl 9)], [.inl 9, .inl (p % 8)], t0, n, 0)) rfl (fun _ => rfl) rfl ?_
    refine ex_go (S := (6, [(0, gx_r 383), (1, .inl p), (2, .inl 9)], [.inl 1, .inl 9, .inl (p % 8)], t0, n, 0)) rfl (fun _ => rfl) rfl ?_
    refine ex_go (S := (13, [(0, gx_r 383), (1, .inl p), (2, .inl 9)], [.inl (p % 8)], t0, n, 0)) rfl (fun _ => rfl) rfl ?_
    refine ex_go (S := (14, [(0, gx_r 383), (1, .inl p), (2, .inl 9)], [.inl 9, .inl (p % 8)], t0, n, 0)) rfl (fun _ => rfl) rfl ?_
    refine ex_go (S := (15, [(0, gx_r 383), (1, .inl p), (2, .inl 9)], [.inl 3, .inl 9, .inl (p % 8)], t0, n, 0)) rfl (fun _ => rfl) rfl ?_
    refine ex_go (S := (22, [(0, gx_r 383), (1, .inl p), (2, .inl 9)], [.inl (p % 8)], t0, n, 0)) rfl (fun _ => rfl) rfl ?_
    refine ex_go (S := (23, [(0, gx_r 383), (1, .inl p), (2, .inl 9)], [.inl 0, .inl (p % 8)], t0, n, 0)) rfl (fun _ => rfl) rfl ?_
    refine ex_iadd rfl (by first | decide | omega) rfl ?_
    refine ex_go (S := (25, [(3, .inl ((p % 8) + 0)), (0, gx_r 383), (1, .inl p), (2, .inl 9)], [], t0, n, 0)) rfl (fun _ => rfl) rfl ?_
    refine ex_go (S := (26, [(3, .inl ((p % 8) + 0)), (0, gx_r 383), (1, .inl p), (2, .inl 9)], [.inl p], t0, n, 0)) rfl (fun _ => rfl) rfl ?_
    refine ex_go (S := (28, [(3, .inl ((p % 8) + 0)), (0, gx_r 383), (1, .inl p), (2, .inl 9)], [.inl 8, .inl p], t0, n, 0)) rfl (fun _ => rfl) rfl ?_
    refine gx_idivn rfl (by first | decide | omega) (by first | decide | omega) (by first | decide | omega) rfl ?_
    refine ex_go (S := (30, [(3, .inl ((p % 8) + 0)), (0, gx_r 383), (1, .inl p), (2, .inl 9)], [.inl 9, .inl (p / 8)], t0, n, 0)) rfl (fun _ => rfl) rfl ?_
    refine ex_go (S := (31, [(3, .inl ((p % 8) + 0)), (0, gx_r 383), (1, .inl p), (2, .inl 9)], [.inl 2, .inl 9, .inl (p / 8)], t0, n, 0)) rfl (fun _ => rfl) rfl ?_
    refine ex_go (S := (38, [(3, .inl ((p % 8) + 0)), (0, gx_r 383), (1, .inl p), (2, .inl 9)], [.inl (p / 8)], t0, n, 0)) rfl (fun _ => rfl) rfl ?_
    refine ex_go (S := (39, [(3, .inl ((p % 8) + 0)), (0, gx_r 383), (1, .inl p), (2, .inl 9)], [.inl 9, .inl (p / 8)], t0, n, 0)) rfl (fun _ => rfl) rfl ?_
    refine ex_go (S := (46, [(3, .inl ((p % 8) + 0)), (0, gx_r 383), (1, .inl p), (2, .inl 9)], [.inl (p / 8)], t0, n, 0)) rfl (fun _ => rfl) rfl ?_
    refine ex_go (S := (47, [(3, .inl ((p % 8) + 0)), (0, gx_r 383), (1, .inl p), (2, .inl 9)], [.inl 0, .inl (p / 8)], t0, n, 0)) rfl (fun _ => rfl) rfl ?_
    refine ex_iadd rfl (by first | decide | omega) rfl ?_
    refine ex_go (S := (50, [(4, .inl ((p / 8) + 0)), (3, .inl ((p % 8) + 0)), (0, gx_r 383), (1, .inl p), (2, .inl 9)], [], t0, n, 0)) rfl (fun _ => rfl) rfl ?_
    refine ex_go (S := (51, [(4, .inl ((p / 8) + 0)), (3, .inl ((p % 8) + 0)), (0, gx_r 383), (1, .inl p), (2, .inl 9)], [gx_r 383], t0, n, 0)) rfl (fun _ => rfl) rfl ?_
    refine ex_go (S := (52, [(4, .inl ((p / 8) + 0)), (3, .inl ((p % 8) + 0)), (0, gx_r 383), (1, .inl p), (2, .inl 9)], [.inl ((p % 8) + 0), gx_r 383], t0, n, 0)) rfl (fun _ => rfl) rfl ?_
    refine ex_go (S := (54, [(4, .inl ((p / 8) + 0)), (3, .inl ((p % 8) + 0)), (0, gx_r 383), (1, .inl p), (2, .inl 9)], [.inl ((p / 8) + 0), .inl ((p % 8) + 0), gx_r 383], t0, n, 0)) rfl (fun _ => rfl) rfl ?_
    obtain ⟨_, r121, b121, rfl, hb121, hi121⟩ := pe_isPlace d n (x := (p % 8) + 0) (y := (p / 8) + 0) (o := w 0 0) (e := w 0 1) g0 kO kD (by first | decide | omega) (by first | decide | omega) (by first | decide | omega) (by first | decide | omega)
    refine gx_call1 rfl rfl g0 rfl rfl r121 rfl ?_
    show en_ex _ _ _ _ (57, [(4, .inl ((p / 8) + 0)), (3, .inl ((p % 8) + 0)), (0, gx_r 383), (1, .inl p), (2, .inl 9)], [.inl b121], t0, n, 0) _
    by_cases hc22 : b121 = 0
    · refine gx_1t (c := .eq) rfl (by first | decide | omega) hc22 rfl ?_
      refine ex_go (S := (71, [(4, .inl ((p / 8) + 0)), (3, .inl ((p % 8) + 0)), (0, gx_r 383), (1, .inl p), (2, .inl 9)], [.inl p], t0, n, 0)) rfl (fun _ => rfl) rfl ?_
      refine ex_ret (r := (some (.inl p), t0, n, 0)) rfl (fun _ => rfl) ?_
      have e9 : nb (w 0 0) (w 0 1) p 9 = p := by rw [nb_ge (by decide)]
      exact ⟨_, rfl, by rw [e9]⟩
    · refine gx_1f (c := .eq) rfl (by first | decide | omega) hc22 rfl ?_
      refine ex_go (S := (62, [(4, .inl ((p / 8) + 0)), (3, .inl ((p % 8) + 0)), (0, gx_r 383), (1, .inl p), (2, .inl 9)], [.inl 8], t0, n, 0)) rfl (fun _ => rfl) rfl ?_
      refine ex_go (S := (64, [(4, .inl ((p / 8) + 0)), (3, .inl ((p % 8) + 0)), (0, gx_r 383), (1, .inl p), (2, .inl 9)], [.inl ((p / 8) + 0), .inl 8], t0, n, 0)) rfl (fun _ => rfl) rfl ?_
      refine gx_imul rfl (by first | decide | omega) rfl ?_
      refine ex_go (S := (66, [(4, .inl ((p / 8) + 0)), (3, .inl ((p % 8) + 0)), (0, gx_r 383), (1, .inl p), (2, .inl 9)], [.inl ((p % 8) + 0), .inl (8 * ((p / 8) + 0))], t0, n, 0)) rfl (fun _ => rfl) rfl ?_
      refine ex_iadd rfl (by first | decide | omega) rfl ?_
      refine ex_go (S := (71, [(4, .inl ((p / 8) + 0)), (3, .inl ((p % 8) + 0)), (0, gx_r 383), (1, .inl p), (2, .inl 9)], [.inl ((8 * ((p / 8) + 0)) + ((p % 8) + 0))], t0, n, 0)) rfl (fun _ => rfl) rfl ?_
      refine ex_ret (r := (some (.inl ((8 * ((p / 8) + 0)) + ((p % 8) + 0))), t0, n, 0)) rfl (fun _ => rfl) ?_
      have e9 : nb (w 0 0) (w 0 1) p 9 = (8 * ((p / 8) + 0)) + ((p % 8) + 0) := by rw [nb_ge (by decide)]; omega
      exact ⟨_, rfl, by rw [e9]⟩
theorem iv_l (d n : Nat) {t0 : en_H} {w : Nat → Nat → Nat} {L : List Nat} {σ : Nat → Nat} {p : Nat} {Q : en_O → Prop} (g0 : ai_HG ah_G t0) (hR : RW t0 w L) (hS : ∀ j, j < 17 → ai_hv t0 399 (990 + j) = some (.inl (σ j))) (hb : sbd σ) (hp : p < 64) (hQ : Q (.inl (some (.inl (b2n (visn w σ p (w 0 2)))), t0, n, 0))) : ∀ j k cl, k + j = w 0 2 → en_ld cl 0 = some (gx_r 383) → en_ld cl 1 = some (.inl 990) → en_ld cl 2 = some (.inl p) → en_ld cl 3 = some (.inl (b2n (visn w σ p k))) → en_ld cl 4 = some (.inl k) → en_ex none (en_u (d + 2)) (en_code 169) (fun _ => false) (5, cl, [], t0, n, 0) Q := by
  have hT := hR.2.1.2.2.1
  intro j
  induction j with
  | zero =>
    intro k cl hk l0 l1 l2 l3 l4
    have hk : k = w 0 2 := by omega
    rw [hk] at l3
    have hb9 := b2n_le (visn w σ p (w 0 2))
    refine gx_ld (i := 4) (d := 0) (v := .inl k) rfl (fun _ => rfl) l4 rfl rfl ?_
    refine gx_ld (i := 0) (d := 2) (v := gx_r 383) rfl (fun _ => rfl) l0 rfl rfl ?_
    obtain ⟨_, r21, rfl⟩ := sr_things (d + 1) n g0 (hR.1 2 (by decide))
    refine gx_call1 rfl rfl g0 rfl rfl r21 rfl ?_
    show en_ex _ _ _ _ (11, cl, [.inl (w 0 2), .inl k], t0, n, 0) _
    refine gx_2t (c := .ge) rfl (by first | decide | omega) (by first | decide | omega) (show w 0 2 ≤ k from by omega) rfl ?_
    refine gx_ld (i := 3) (d := 0) (v := .inl (b2n (visn w σ p (w 0 2)))) rfl (fun _ => rfl) l3 rfl rfl ?_
    refine gx_retb rfl (by first | decide | omega) ?_
    exact hQ
  | succ j ih =>
    intro k cl hk l0 l1 l2 l3 l4
    have kp : ai_hv t0 399 (991 + k) = some (.inl (σ (1 + k))) := by
      have h9 := hS (1 + k) (by first | decide | omega)
      rw [show 990 + (1 + k) = 991 + k by omega] at h9
      exact h9
    have hpl := hb.1 k (by first | decide | omega)
    have hkd := (hR.2.2.2.2.1 k (by first | decide | omega)).2.1
    cases hv : visn w σ p k
    · rw [hv] at l3
      refine gx_ld (i := 4) (d := 0) (v := .inl k) rfl (fun _ => rfl) l4 rfl rfl ?_
      refine gx_ld (i := 0) (d := 2) (v := gx_r 383) rfl (fun _ => rfl) l0 rfl rfl ?_
      obtain ⟨_, r21, rfl⟩ := sr_things (d + 1) n g0 (hR.1 2 (by decide))
      refine gx_call1 rfl rfl g0 rfl rfl r21 rfl ?_
      show en_ex _ _ _ _ (11, cl, [.inl (w 0 2), .inl k], t0, n, 0) _
      refine gx_2f (c := .ge) rfl (by first | decide | omega) (by first | decide | omega) (show ¬ (w 0 2 ≤ k) from by omega) rfl ?_
      refine gx_ld (i := 3) (d := 0) (v := .inl 0) rfl (fun _ => rfl) l3 rfl rfl ?_
      refine ex_go (S := (18, cl, [], t0, n, 0)) rfl (fun _ => rfl) rfl ?_
      refine gx_ld (i := 0) (d := 2) (v := gx_r 383) rfl (fun _ => rfl) l0 rfl rfl ?_
      refine gx_ld (i := 4) (d := 0) (v := .inl k) rfl (fun _ => rfl) l4 rfl rfl ?_
      obtain ⟨_, r22, rfl⟩ := sr_kindOf (i := k) (d + 1) n g0 (hR) (by first | decide | omega)
      refine gx_call1 rfl rfl g0 rfl rfl r22 rfl ?_
      show en_ex _ _ _ _ (24, cl, [.inl (w 5 k)], t0, n, 0) _
      refine ex_go (S := (25, cl, [.inl 1, .inl (w 5 k)], t0, n, 0)) rfl (fun _ => rfl) rfl ?_
      by_cases hc23 : 1 < w 5 k
      · refine gx_2t (c := .gt) rfl (by first | decide | omega) (by first | decide | omega) hc23 rfl ?_
        refine ex_go (S := (48, cl, [.inl 0], t0, n, 0)) rfl (fun _ => rfl) rfl ?_
        refine gx_sto (i := 3) (d := 0) rfl (fun _ => rfl) rfl rfl (fun l24 hl24 ml24 => ?_)
        have l24_0 : en_ld l24 0 = some (gx_r 383) := ml24 0 _ l0 rfl
        have l24_1 : en_ld l24 1 = some (.inl 990) := ml24 1 _ l1 rfl
        have l24_2 : en_ld l24 2 = some (.inl p) := ml24 2 _ l2 rfl
        have l24_4 : en_ld l24 4 = some (.inl k) := ml24 4 _ l4 rfl
        refine gx_incS (i := 4) (a := k) (x := 1) rfl (fun _ => rfl) l24_4 (by first | decide | omega) rfl (fun l25 hl25 ml25 => ?_)
        have l25_0 : en_ld l25 0 = some (gx_r 383) := ml25 0 _ l24_0 rfl
        have l25_1 : en_ld l25 1 = some (.inl 990) := ml25 1 _ l24_1 rfl
        have l25_2 : en_ld l25 2 = some (.inl p) := ml25 2 _ l24_2 rfl
        have l25_3 : en_ld l25 3 = some (.inl 0) := ml25 3 _ hl24 rfl
        refine ex_go (S := (5, l25, [], t0, n, 0)) rfl (fun _ => rfl) rfl ?_
        exact ih (k + 1) _ (by first | decide | omega) l25_0 l25_1 l25_2 (by rw [visn_n hv (by first | decide | omega)]; exact l25_3) hl25
      · refine gx_2f (c := .gt) rfl (by first | decide | omega) (by first | decide | omega) hc23 rfl ?_
        refine gx_ld (i := 0) (d := 2) (v := gx_r 383) rfl (fun _ => rfl) l0 rfl rfl ?_
        refine gx_ref (c := 399) rfl g0 rfl rfl rfl rfl ?_
        refine gx_ld (i := 1) (d := 0) (v := .inl 990) rfl (fun _ => rfl) l1 rfl rfl ?_
        refine ex_go (S := (34, cl, [.inl 1, .inl 990, gx_r 399], t0, n, 0)) rfl (fun _ => rfl) rfl ?_
        refine ex_go (S := (35, cl, [.inl 991, gx_r 399], t0, n, 0)) rfl (fun _ => rfl) rfl ?_
        refine gx_ld (i := 4) (d := 0) (v := .inl k) rfl (fun _ => rfl) l4 rfl rfl ?_
        refine ex_iadd rfl (by first | decide | omega) rfl ?_
        refine gx_ag (v := .inl (σ (1 + k))) (cb := fun c => Nat.beq c 0) rfl (fun _ => rfl) g0 rfl rfl kp (by first | decide | omega) rfl ?_
        refine gx_ld (i := 2) (d := 0) (v := .inl p) rfl (fun _ => rfl) l2 rfl rfl ?_
        by_cases hc26 : σ (1 + k) ≠ p
        · refine gx_2t (c := .ne) rfl (by first | decide | omega) (by first | decide | omega) hc26 rfl ?_
          refine ex_go (S := (48, cl, [.inl 0], t0, n, 0)) rfl (fun _ => rfl) rfl ?_
          refine gx_sto (i := 3) (d := 0) rfl (fun _ => rfl) rfl rfl (fun l27 hl27 ml27 => ?_)
          have l27_0 : en_ld l27 0 = some (gx_r 383) := ml27 0 _ l0 rfl
          have l27_1 : en_ld l27 1 = some (.inl 990) := ml27 1 _ l1 rfl
          have l27_2 : en_ld l27 2 = some (.inl p) := ml27 2 _ l2 rfl
          have l27_4 : en_ld l27 4 = some (.inl k) := ml27 4 _ l4 rfl
          refine gx_incS (i := 4) (a := k) (x := 1) rfl (fun _ => rfl) l27_4 (by first | decide | omega) rfl (fun l28 hl28 ml28 => ?_)
          have l28_0 : en_ld l28 0 = some (gx_r 383) := ml28 0 _ l27_0 rfl
          have l28_1 : en_ld l28 1 = some (.inl 990) := ml28 1 _ l27_1 rfl
          have l28_2 : en_ld l28 2 = some (.inl p) := ml28 2 _ l27_2 rfl
          have l28_3 : en_ld l28 3 = some (.inl 0) := ml28 3 _ hl27 rfl
          refine ex_go (S := (5, l28, [], t0, n, 0)) rfl (fun _ => rfl) rfl ?_
          exact ih (k + 1) _ (by first | decide | omega) l28_0 l28_1 l28_2 (by rw [visn_n hv (by first | decide | omega)]; exact l28_3) hl28
        · refine gx_2f (c := .ne) rfl (by first | decide | omega) (by first | decide | omega) hc26 rfl ?_
          refine ex_go (S := (44, cl, [.inl 1], t0, n, 0)) rfl (fun _ => rfl) rfl ?_
          refine ex_go (S := (48, cl, [.inl 1], t0, n, 0)) rfl (fun _ => rfl) rfl ?_
          refine gx_sto (i := 3) (d := 0) rfl (fun _ => rfl) rfl rfl (fun l29 hl29 ml29 => ?_)
          have l29_0 : en_ld l29 0 = some (gx_r 383) := ml29 0 _ l0 rfl
          have l29_1 : en_ld l29 1 = some (.inl 990) := ml29 1 _ l1 rfl
          have l29_2 : en_ld l29 2 = some (.inl p) := ml29 2 _ l2 rfl
          have l29_4 : en_ld l29 4 = some (.inl k) := ml29 4 _ l4 rfl
          refine gx_incS (i := 4) (a := k) (x := 1) rfl (fun _ => rfl) l29_4 (by first | decide | omega) rfl (fun l30 hl30 ml30 => ?_)
          have l30_0 : en_ld l30 0 = some (gx_r 383) := ml30 0 _ l29_0 rfl
          have l30_1 : en_ld l30 1 = some (.inl 990) := ml30 1 _ l29_1 rfl
          have l30_2 : en_ld l30 2 = some (.inl p) := ml30 2 _ l29_2 rfl
          have l30_3 : en_ld l30 3 = some (.inl 1) := ml30 3 _ hl29 rfl
          refine ex_go (S := (5, l30, [], t0, n, 0)) rfl (fun _ => rfl) rfl ?_
          exact ih (k + 1) _ (by first | decide | omega) l30_0 l30_1 l30_2 (by rw [visn_y (Or.inr ⟨by omega, by omega⟩)]; exact l30_3) hl30
    · rw [hv] at l3
      refine gx_ld (i := 4) (d := 0) (v := .inl k) rfl (fun _ => rfl) l4 rfl rfl ?_
      refine gx_ld (i := 0) (d := 2) (v := gx_r 383) rfl (fun _ => rfl) l0 rfl rfl ?_
      obtain ⟨_, r31, rfl⟩ := sr_things (d + 1) n g0 (hR.1 2 (by decide))
      refine gx_call1 rfl rfl g0 rfl rfl r31 rfl ?_
      show en_ex _ _ _ _ (11, cl, [.inl (w 0 2), .inl k], t0, n, 0) _
      refine gx_2f (c := .ge) rfl (by first | decide | omega) (by first | decide | omega) (show ¬ (w 0 2 ≤ k) from by omega) rfl ?_
      refine gx_ld (i := 3) (d := 0) (v := .inl 1) rfl (fun _ => rfl) l3 rfl rfl ?_
      refine ex_go (S := (43, cl, [], t0, n, 0)) rfl (fun _ => rfl) rfl ?_
      refine ex_go (S := (44, cl, [.inl 1], t0, n, 0)) rfl (fun _ => rfl) rfl ?_
      refine ex_go (S := (48, cl, [.inl 1], t0, n, 0)) rfl (fun _ => rfl) rfl ?_
      refine gx_sto (i := 3) (d := 0) rfl (fun _ => rfl) rfl rfl (fun l32 hl32 ml32 => ?_)
      have l32_0 : en_ld l32 0 = some (gx_r 383) := ml32 0 _ l0 rfl
      have l32_1 : en_ld l32 1 = some (.inl 990) := ml32 1 _ l1 rfl
      have l32_2 : en_ld l32 2 = some (.inl p) := ml32 2 _ l2 rfl
      have l32_4 : en_ld l32 4 = some (.inl k) := ml32 4 _ l4 rfl
      refine gx_incS (i := 4) (a := k) (x := 1) rfl (fun _ => rfl) l32_4 (by first | decide | omega) rfl (fun l33 hl33 ml33 => ?_)
      have l33_0 : en_ld l33 0 = some (gx_r 383) := ml33 0 _ l32_0 rfl
      have l33_1 : en_ld l33 1 = some (.inl 990) := ml33 1 _ l32_1 rfl
      have l33_2 : en_ld l33 2 = some (.inl p) := ml33 2 _ l32_2 rfl
      have l33_3 : en_ld l33 3 = some (.inl 1) := ml33 3 _ hl32 rfl
      refine ex_go (S := (5, l33, [], t0, n, 0)) rfl (fun _ => rfl) rfl ?_
      exact ih (k + 1) _ (by first | decide | omega) l33_0 l33_1 l33_2 (by rw [visn_y (Or.inl hv)]; exact l33_3) hl33
theorem sr_isVisited (d n : Nat) {t0 : en_H} {w : Nat → Nat → Nat} {L : List Nat} {σ : Nat → Nat} {p : Nat} (g0 : ai_HG ah_G t0) (hR : RW t0 w L) (hS : ∀ j, j < 17 → ai_hv t0 399 (990 + j) = some (.inl (σ j))) (hb : sbd σ) (hp : p < 64) : ∃ r, en_u (d + 3) 169 [gx_r 383, .inl 990, .inl p] t0 n = some r ∧ r = (some (.inl (b2n (visn w σ p (w 0 2)))), t0, n, 0) := by
  refine en_u_ex (d := d + 2) rfl ?_
  show en_ex _ _ _ _ (0, [(0, gx_r 383), (1, .inl 990), (2, .inl p)], [], t0, n, 0) _
  refine ex_go (S := (1, [(0, gx_r 383), (1, .inl 990), (2, .inl p)], [.inl 0], t0, n, 0)) rfl (fun _ => rfl) rfl ?_
  refine ex_go (S := (2, [(3, .inl 0), (0, gx_r 383), (1, .inl 990), (2, .inl p)], [], t0, n, 0)) rfl (fun _ => rfl) rfl ?_
  refine ex_go (S := (3, [(3, .inl 0), (0, gx_r 383), (1, .inl 990), (2, .inl p)], [.inl 0], t0, n, 0)) rfl (fun _ => rfl) rfl ?_
  refine ex_go (S := (5, [(4, .inl 0), (3, .inl 0), (0, gx_r 383), (1, .inl 990), (2, .inl p)], [], t0, n, 0)) rfl (fun _ => rfl) rfl ?_
  exact iv_l d n g0 hR hS hb hp ⟨_, rfl, rfl⟩ (w 0 2) 0 _ (by first | decide | omega) rfl rfl rfl rfl rfl
theorem mr_a (d n : Nat) {tb : en_H} {w : Nat → Nat → Nat} {L : List Nat} {σ : Nat → Nat} {g : Nat} {st wh v4 v5 v6 v7 : Nat} {Q : en_O → Prop} (hR : RW tb w L) (hg : g < 2147483648) (hP : ∀ i, i < 6 → σ (1 + i) ≤ 63) (hQ : ∀ cl t1, ai_HG ah_G t1 → (∀ c i, ¬ ((c = 383 ∧ i = 40) ∨ (c = 399 ∧ 991 ≤ i ∧ i ≤ 996)) → ai_hv t1 c i = ai_hv tb c i) → ai_hv t1 383 40 = some (.inr (.inl (sgn w g (w 0 2)))) → (∀ i, i < 6 → ai_hv t1 399 (991 + i) = some (.inl (if i < w 0 2 then spl w g σ i else σ (1 + i)))) → en_ld cl 0 = some (gx_r 383) → en_ld cl 2 = some (.inl st) → en_ld cl 3 = some (.inl wh) → en_ld cl 4 = some (.inl v4) → en_ld cl 5 = some (.inl v5) → en_ld cl 6 = some (.inl v6) → en_ld cl 7 = some (.inl v7) → en_ex none (en_u (d + 5)) (en_code 82) (fun _ => false) (139, cl, [], t1, n, 0) Q) : ∀ j k cl t0, k + j = w 0 2 → ai_HG ah_G t0 → (∀ c i, ¬ ((c = 383 ∧ i = 40) ∨ (c = 399 ∧ 991 ≤ i ∧ i ≤ 996)) → ai_hv t0 c i = ai_hv tb c i) → ai_hv t0 383 40 = some (.inr (.inl (sgn w g k))) → (∀ i, i < 6 → ai_hv t0 399 (991 + i) = some (.inl (if i < k then spl w g σ i else σ (1 + i)))) → en_ld cl 0 = some (gx_r 383) → en_ld cl 2 = some (.inl st) → en_ld cl 3 = some (.inl wh) → en_ld cl 4 = some (.inl v4) → en_ld cl 5 = some (.inl v5) → en_ld cl 6 = some (.inl v6) → en_ld cl 7 = some (.inl v7) → en_ld cl 8 = some (.inl k) → en_ex none (en_u (d + 5)) (en_code 82) (fun _ => false) (74, cl, [], t0, n, 0) Q := by
  have hT := hR.2.1.2.2.1
  intro j
  induction j with
  | zero =>
    intro k cl t0 hk g0 e0 kg i0 l0 l2 l3 l4 l5 l6 l7 l8
    have hk : k = w 0 2 := by omega
    rw [hk] at i0 kg
    refine gx_ld (i := 8) (d := 0) (v := .inl k) rfl (fun _ => rfl) l8 rfl rfl ?_
    refine gx_ld (i := 0) (d := 2) (v := gx_r 383) rfl (fun _ => rfl) l0 rfl rfl ?_
    obtain ⟨_, r21, rfl⟩ := sr_things (d + 4) n g0 ((e0 389 2 (by first | decide | omega)).trans (hR.1 2 (by decide)))
    refine gx_call1 rfl rfl g0 rfl rfl r21 rfl ?_
    show en_ex _ _ _ _ (80, cl, [.inl (w 0 2), .inl k], t0, n, 0) _
    refine gx_2t (c := .ge) rfl (by first | decide | omega) (by first | decide | omega) (show w 0 2 ≤ k from by omega) rfl ?_
    exact hQ _ _ g0 e0 kg i0 l0 l2 l3 l4 l5 l6 l7
  | succ j ih =>
    intro k cl t0 hk g0 e0 kg i0 l0 l2 l3 l4 l5 l6 l7 l8
    have kp := i0 k (by first | decide | omega)
    rw [if_neg (by first | decide | omega)] at kp
    have hp := hP k (by first | decide | omega)
    have hgk := sgn_lt (w := w) hg k
    have hkd := (hR.2.2.2.2.1 k (by first | decide | omega)).2.1
    refine gx_ld (i := 8) (d := 0) (v := .inl k) rfl (fun _ => rfl) l8 rfl rfl ?_
    refine gx_ld (i := 0) (d := 2) (v := gx_r 383) rfl (fun _ => rfl) l0 rfl rfl ?_
    obtain ⟨_, r21, rfl⟩ := sr_things (d + 4) n g0 ((e0 389 2 (by first | decide | omega)).trans (hR.1 2 (by decide)))
    refine gx_call1 rfl rfl g0 rfl rfl r21 rfl ?_
    show en_ex _ _ _ _ (80, cl, [.inl (w 0 2), .inl k], t0, n, 0) _
    refine gx_2f (c := .ge) rfl (by first | decide | omega) (by first | decide | omega) (show ¬ (w 0 2 ≤ k) from by omega) rfl ?_
    refine gx_ld (i := 0) (d := 2) (v := gx_r 383) rfl (fun _ => rfl) l0 rfl rfl ?_
    refine gx_ld (i := 8) (d := 0) (v := .inl k) rfl (fun _ => rfl) l8 rfl rfl ?_
    obtain ⟨_, r22, rfl⟩ := sr_kindOf (i := k) (d + 4) n g0 (RW_keep hR (fun i hi => e0 389 i (by first | decide | omega)) (fun c i hc _ => e0 c i (by first | decide | omega))) (by first | decide | omega)
    refine gx_call1 rfl rfl g0 rfl rfl r22 rfl ?_
    show en_ex _ _ _ _ (89, cl, [.inl (w 5 k)], t0, n, 0) _
    refine ex_go (S := (90, cl, [.inl 2, .inl (w 5 k)], t0, n, 0)) rfl (fun _ => rfl) rfl ?_
    by_cases hc9 : w 5 k = 2
    · refine gx_2f (c := .ne) rfl (by first | decide | omega) (by first | decide | omega) (show ¬ (w 5 k ≠ 2) from by omega) rfl ?_
      refine gx_ld (i := 0) (d := 2) (v := gx_r 383) rfl (fun _ => rfl) l0 rfl rfl ?_
      refine ex_go (S := (96, cl, [.inl 10, gx_r 383], t0, n, 0)) rfl (fun _ => rfl) rfl ?_
      obtain ⟨_, r123, t123, rfl, g123, e123, k123⟩ := sr_draw (d + 4) n g0 kg hgk
      have hdv := dv_lt (dr1 (sgn w g k))
      refine gx_call1 rfl rfl g0 rfl rfl r123 rfl ?_
      have k24 : ai_hv t123 399 (991 + k) = some (.inl (σ (1 + k))) := (e123 399 (991 + k) (by first | decide | omega)).trans kp
      show en_ex _ _ _ _ (99, cl, [.inl (dv (dr1 (sgn w g k)))], t123, n, 0) _
      refine ex_go (S := (103, cl, [.inl (dv (dr1 (sgn w g k)))], t123, n, 0)) rfl (fun _ => rfl) rfl ?_
      refine gx_sto (i := 9) (d := 0) rfl (fun _ => rfl) rfl rfl (fun l25 hl25 ml25 => ?_)
      have l25_0 : en_ld l25 0 = some (gx_r 383) := ml25 0 _ l0 rfl
      have l25_2 : en_ld l25 2 = some (.inl st) := ml25 2 _ l2 rfl
      have l25_3 : en_ld l25 3 = some (.inl wh) := ml25 3 _ l3 rfl
      have l25_4 : en_ld l25 4 = some (.inl v4) := ml25 4 _ l4 rfl
      have l25_5 : en_ld l25 5 = some (.inl v5) := ml25 5 _ l5 rfl
      have l25_6 : en_ld l25 6 = some (.inl v6) := ml25 6 _ l6 rfl
      have l25_7 : en_ld l25 7 = some (.inl v7) := ml25 7 _ l7 rfl
      have l25_8 : en_ld l25 8 = some (.inl k) := ml25 8 _ l8 rfl
      refine gx_ld (i := 0) (d := 2) (v := gx_r 383) rfl (fun _ => rfl) l25_0 rfl rfl ?_
      refine gx_ref (c := 399) rfl g123 rfl rfl rfl rfl ?_
      refine ex_go (S := (112, l25, [.inl 991, gx_r 399], t123, n, 0)) rfl (fun _ => rfl) rfl ?_
      refine gx_ld (i := 8) (d := 0) (v := .inl k) rfl (fun _ => rfl) l25_8 rfl rfl ?_
      refine ex_iadd rfl (by first | decide | omega) rfl ?_
      refine gx_ld (i := 0) (d := 2) (v := gx_r 383) rfl (fun _ => rfl) l25_0 rfl rfl ?_
      refine gx_ld (i := 0) (d := 2) (v := gx_r 383) rfl (fun _ => rfl) l25_0 rfl rfl ?_
      refine gx_ref (c := 399) rfl g123 rfl rfl rfl rfl ?_
      refine ex_go (S := (123, l25, [.inl 991, gx_r 399, gx_r 383, .inl (991 + k), gx_r 399], t123, n, 0)) rfl (fun _ => rfl) rfl ?_
      refine gx_ld (i := 8) (d := 0) (v := .inl k) rfl (fun _ => rfl) l25_8 rfl rfl ?_
      refine ex_iadd rfl (by first | decide | omega) rfl ?_
      refine gx_ag (v := .inl (σ (1 + k))) (cb := fun c => Nat.beq c 0) rfl (fun _ => rfl) g123 rfl rfl k24 (by first | decide | omega) rfl ?_
      refine gx_ld (i := 9) (d := 0) (v := .inl (dv (dr1 (sgn w g k)))) rfl (fun _ => rfl) hl25 rfl rfl ?_
      obtain ⟨_, r26, rfl⟩ := sr_onFrom9 (d + 3) n (p := σ (1 + k)) (s := dv (dr1 (sgn w g k))) g123 (RW_keep hR (fun i hi => (e123 389 i (by first | decide | omega)).trans (e0 389 i (by first | decide | omega))) (fun c i hc _ => (e123 c i (by first | decide | omega)).trans (e0 c i (by first | decide | omega)))) (by first | decide | omega) (by first | decide | omega)
      have hnl := nb_lt (O := w 0 0) (D := w 0 1) (p := σ (1 + k)) (s := dv (dr1 (sgn w g k))) (by first | decide | omega) hR.2.1.1 hR.2.1.2.1
      refine gx_call1 rfl rfl g123 rfl rfl r26 rfl ?_
      show en_ex _ _ _ _ (132, l25, [.inl (nb (w 0 0) (w 0 1) (σ (1 + k)) (dv (dr1 (sgn w g k)))), .inl (991 + k), gx_r 399], t123, n, 0) _
      refine gx_ap rfl (fun _ => rfl) g123 rfl rfl rfl (show 991 + k < 1035 from by omega) (gx_at (rs := ah_399.2.2.2) (b := 991) (st := 1) (lo := 2147483648) (hi := 2147483711) (m := 6) (by decide +kernel) k (by first | decide | omega) (by first | decide | omega)) (ai_in_h (by first | decide | omega) (by first | decide | omega) (by first | decide | omega)) rfl (fun t127 g127 k127 e127 => ?_)
      refine gx_incS (i := 8) (a := k) (x := 1) rfl (fun _ => rfl) l25_8 (by first | decide | omega) rfl (fun l28 hl28 ml28 => ?_)
      have l28_0 : en_ld l28 0 = some (gx_r 383) := ml28 0 _ l25_0 rfl
      have l28_2 : en_ld l28 2 = some (.inl st) := ml28 2 _ l25_2 rfl
      have l28_3 : en_ld l28 3 = some (.inl wh) := ml28 3 _ l25_3 rfl
      have l28_4 : en_ld l28 4 = some (.inl v4) := ml28 4 _ l25_4 rfl
      have l28_5 : en_ld l28 5 = some (.inl v5) := ml28 5 _ l25_5 rfl
      have l28_6 : en_ld l28 6 = some (.inl v6) := ml28 6 _ l25_6 rfl
      have l28_7 : en_ld l28 7 = some (.inl v7) := ml28 7 _ l25_7 rfl
      have l28_9 : en_ld l28 9 = some (.inl (dv (dr1 (sgn w g k)))) := ml28 9 _ hl25 rfl
      refine ex_go (S := (74, l28, [], t127, n, 0)) rfl (fun _ => rfl) rfl ?_
      refine ih (k + 1) _ t127 (by first | decide | omega) g127 (fun c i h => (e127 c i (by first | decide | omega)).trans ((e123 c i (by first | decide | omega)).trans (e0 c i (by first | decide | omega)))) (by rw [sgn_y hc9]; exact (e127 383 40 (by first | decide | omega)).trans k123) (fun i hi => ?_) l28_0 l28_2 l28_3 l28_4 l28_5 l28_6 l28_7 hl28
      by_cases e9 : i = k
      · subst e9; rw [if_pos (by first | decide | omega), spl_y hc9]; exact k127
      · refine ((e127 399 (991 + i) (by first | decide | omega)).trans (e123 399 (991 + i) (by first | decide | omega))).trans ((i0 i hi).trans ?_)
        by_cases c9 : i < k
        · rw [if_pos c9, if_pos (by first | decide | omega)]
        · rw [if_neg c9, if_neg (by first | decide | omega)]
    · refine gx_2t (c := .ne) rfl (by first | decide | omega) (by first | decide | omega) (show w 5 k ≠ 2 from by omega) rfl ?_
      refine ex_go (S := (103, cl, [.inl 4], t0, n, 0)) rfl (fun _ => rfl) rfl ?_
      refine gx_sto (i := 9) (d := 0) rfl (fun _ => rfl) rfl rfl (fun l29 hl29 ml29 => ?_)
      have l29_0 : en_ld l29 0 = some (gx_r 383) := ml29 0 _ l0 rfl
      have l29_2 : en_ld l29 2 = some (.inl st) := ml29 2 _ l2 rfl
      have l29_3 : en_ld l29 3 = some (.inl wh) := ml29 3 _ l3 rfl
      have l29_4 : en_ld l29 4 = some (.inl v4) := ml29 4 _ l4 rfl
      have l29_5 : en_ld l29 5 = some (.inl v5) := ml29 5 _ l5 rfl
      have l29_6 : en_ld l29 6 = some (.inl v6) := ml29 6 _ l6 rfl
      have l29_7 : en_ld l29 7 = some (.inl v7) := ml29 7 _ l7 rfl
      have l29_8 : en_ld l29 8 = some (.inl k) := ml29 8 _ l8 rfl
      refine gx_ld (i := 0) (d := 2) (v := gx_r 383) rfl (fun _ => rfl) l29_0 rfl rfl ?_
      refine gx_ref (c := 399) rfl g0 rfl rfl rfl rfl ?_
      refine ex_go (S := (112, l29, [.inl 991, gx_r 399], t0, n, 0)) rfl (fun _ => rfl) rfl ?_
      refine gx_ld (i := 8) (d := 0) (v := .inl k) rfl (fun _ => rfl) l29_8 rfl rfl ?_
      refine ex_iadd rfl (by first | decide | omega) rfl ?_
      refine gx_ld (i := 0) (d := 2) (v := gx_r 383) rfl (fun _ => rfl) l29_0 rfl rfl ?_
      refine gx_ld (i := 0) (d := 2) (v := gx_r 383) rfl (fun _ => rfl) l29_0 rfl rfl ?_
      refine gx_ref (c := 399) rfl g0 rfl rfl rfl rfl ?_
      refine ex_go (S := (123, l29, [.inl 991, gx_r 399, gx_r 383, .inl (991 + k), gx_r 399], t0, n, 0)) rfl (fun _ => rfl) rfl ?_
      refine gx_ld (i := 8) (d := 0) (v := .inl k) rfl (fun _ => rfl) l29_8 rfl rfl ?_
      refine ex_iadd rfl (by first | decide | omega) rfl ?_
      refine gx_ag (v := .inl (σ (1 + k))) (cb := fun c => Nat.beq c 0) rfl (fun _ => rfl) g0 rfl rfl kp (by first | decide | omega) rfl ?_
      refine gx_ld (i := 9) (d := 0) (v := .inl 4) rfl (fun _ => rfl) hl29 rfl rfl ?_
      obtain ⟨_, r30, rfl⟩ := sr_onFrom9 (d + 3) n (p := σ (1 + k)) (s := 4) g0 (RW_keep hR (fun i hi => e0 389 i (by first | decide | omega)) (fun c i hc _ => e0 c i (by first | decide | omega))) (by first | decide | omega) (by first | decide | omega)
      have hnl := nb_lt (O := w 0 0) (D := w 0 1) (p := σ (1 + k)) (s := 4) (by first | decide | omega) hR.2.1.1 hR.2.1.2.1
      refine gx_call1 rfl rfl g0 rfl rfl r30 rfl ?_
      show en_ex _ _ _ _ (132, l29, [.inl (nb (w 0 0) (w 0 1) (σ (1 + k)) 4), .inl (991 + k), gx_r 399], t0, n, 0) _
      refine gx_ap rfl (fun _ => rfl) g0 rfl rfl rfl (show 991 + k < 1035 from by omega) (gx_at (rs := ah_399.2.2.2) (b := 991) (st := 1) (lo := 2147483648) (hi := 2147483711) (m := 6) (by decide +kernel) k (by first | decide | omega) (by first | decide | omega)) (ai_in_h (by first | decide | omega) (by first | decide | omega) (by first | decide | omega)) rfl (fun t131 g131 k131 e131 => ?_)
      refine gx_incS (i := 8) (a := k) (x := 1) rfl (fun _ => rfl) l29_8 (by first | decide | omega) rfl (fun l32 hl32 ml32 => ?_)
      have l32_0 : en_ld l32 0 = some (gx_r 383) := ml32 0 _ l29_0 rfl
      have l32_2 : en_ld l32 2 = some (.inl st) := ml32 2 _ l29_2 rfl
      have l32_3 : en_ld l32 3 = some (.inl wh) := ml32 3 _ l29_3 rfl
      have l32_4 : en_ld l32 4 = some (.inl v4) := ml32 4 _ l29_4 rfl
      have l32_5 : en_ld l32 5 = some (.inl v5) := ml32 5 _ l29_5 rfl
      have l32_6 : en_ld l32 6 = some (.inl v6) := ml32 6 _ l29_6 rfl
      have l32_7 : en_ld l32 7 = some (.inl v7) := ml32 7 _ l29_7 rfl
      have l32_9 : en_ld l32 9 = some (.inl 4) := ml32 9 _ hl29 rfl
      refine ex_go (S := (74, l32, [], t131, n, 0)) rfl (fun _ => rfl) rfl ?_
      refine ih (k + 1) _ t131 (by first | decide | omega) g131 (fun c i h => (e131 c i (by first | decide | omega)).trans (e0 c i (by first | decide | omega))) (by rw [sgn_n hc9]; exact (e131 383 40 (by first | decide | omega)).trans kg) (fun i hi => ?_) l32_0 l32_2 l32_3 l32_4 l32_5 l32_6 l32_7 hl32
      by_cases e9 : i = k
      · subst e9; rw [if_pos (by first | decide | omega), spl_n hc9]; rw [nb_4] at k131; exact k131
      · refine (e131 399 (991 + i) (by first | decide | omega)).trans ((i0 i hi).trans ?_)
        by_cases c9 : i < k
        · rw [if_pos c9, if_pos (by first | decide | omega)]
        · rw [if_neg c9, if_neg (by first | decide | omega)]
theorem mr_b (d n : Nat) {t0 : en_H} {w : Nat → Nat → Nat} {L : List Nat} {σ : Nat → Nat} {st wh v4 v5 v6 v7 : Nat} {Q : en_O → Prop} (g0 : ai_HG ah_G t0) (hR : RW t0 w L) (hS : ∀ j, j < 17 → ai_hv t0 399 (990 + j) = some (.inl (σ j))) (hb : sbd σ) (hv4 : v4 ≤ 1000) (hQ : ∀ cl, en_ld cl 0 = some (gx_r 383) → en_ld cl 2 = some (.inl st) → en_ld cl 3 = some (.inl wh) → en_ld cl 5 = some (.inl v5) → en_ld cl 6 = some (.inl v6) → en_ld cl 7 = some (.inl v7) → en_ld cl 4 = some (.inl (v4 + bearn w σ (w 0 2))) → en_ex none (en_u (d + 5)) (en_code 82) (fun _ => false) (210, cl, [], t0, n, 0) Q) : ∀ j k cl, k + j = w 0 2 → en_ld cl 0 = some (gx_r 383) → en_ld cl 2 = some (.inl st) → en_ld cl 3 = some (.inl wh) → en_ld cl 5 = some (.inl v5) → en_ld cl 6 = some (.inl v6) → en_ld cl 7 = some (.inl v7) → en_ld cl 4 = some (.inl (v4 + bearn w σ k)) → en_ld cl 8 = some (.inl k) → en_ex none (en_u (d + 5)) (en_code 82) (fun _ => false) (154, cl, [], t0, n, 0) Q := by
  have hT := hR.2.1.2.2.1
  intro j
  induction j with
  | zero =>
    intro k cl hk l0 l2 l3 l5 l6 l7 l4 l8
    have hk : k = w 0 2 := by omega
    rw [hk] at l4
    refine gx_ld (i := 8) (d := 0) (v := .inl k) rfl (fun _ => rfl) l8 rfl rfl ?_
    refine gx_ld (i := 0) (d := 2) (v := gx_r 383) rfl (fun _ => rfl) l0 rfl rfl ?_
    obtain ⟨_, r21, rfl⟩ := sr_things (d + 4) n g0 (hR.1 2 (by decide))
    refine gx_call1 rfl rfl g0 rfl rfl r21 rfl ?_
    show en_ex _ _ _ _ (160, cl, [.inl (w 0 2), .inl k], t0, n, 0) _
    refine gx_2t (c := .ge) rfl (by first | decide | omega) (by first | decide | omega) (show w 0 2 ≤ k from by omega) rfl ?_
    exact hQ _ l0 l2 l3 l5 l6 l7 l4
  | succ j ih =>
    intro k cl hk l0 l2 l3 l5 l6 l7 l4 l8
    have kp : ai_hv t0 399 (991 + k) = some (.inl (σ (1 + k))) := by
      have h9 := hS (1 + k) (by first | decide | omega)
      rw [show 990 + (1 + k) = 991 + k by omega] at h9
      exact h9
    have hpl := hb.1 k (by first | decide | omega)
    have hbk := bearn_le (w := w) (σ := σ) k
    have hb2 := b2n_le (visn w σ (σ (1 + k)) (w 0 2))
    have hkd := (hR.2.2.2.2.1 k (by first | decide | omega)).2.1
    refine gx_ld (i := 8) (d := 0) (v := .inl k) rfl (fun _ => rfl) l8 rfl rfl ?_
    refine gx_ld (i := 0) (d := 2) (v := gx_r 383) rfl (fun _ => rfl) l0 rfl rfl ?_
    obtain ⟨_, r21, rfl⟩ := sr_things (d + 4) n g0 (hR.1 2 (by decide))
    refine gx_call1 rfl rfl g0 rfl rfl r21 rfl ?_
    show en_ex _ _ _ _ (160, cl, [.inl (w 0 2), .inl k], t0, n, 0) _
    refine gx_2f (c := .ge) rfl (by first | decide | omega) (by first | decide | omega) (show ¬ (w 0 2 ≤ k) from by omega) rfl ?_
    refine gx_ld (i := 4) (d := 0) (v := .inl (v4 + (bearn w σ k))) rfl (fun _ => rfl) l4 rfl rfl ?_
    refine gx_ld (i := 0) (d := 2) (v := gx_r 383) rfl (fun _ => rfl) l0 rfl rfl ?_
    refine gx_ld (i := 8) (d := 0) (v := .inl k) rfl (fun _ => rfl) l8 rfl rfl ?_
    obtain ⟨_, r22, rfl⟩ := sr_kindOf (i := k) (d + 4) n g0 (hR) (by first | decide | omega)
    refine gx_call1 rfl rfl g0 rfl rfl r22 rfl ?_
    show en_ex _ _ _ _ (171, cl, [.inl (w 5 k), .inl (v4 + (bearn w σ k))], t0, n, 0) _
    refine ex_go (S := (172, cl, [.inl 2, .inl (w 5 k), .inl (v4 + (bearn w σ k))], t0, n, 0)) rfl (fun _ => rfl) rfl ?_
    by_cases hc9 : w 5 k = 2
    · refine gx_2f (c := .ne) rfl (by first | decide | omega) (by first | decide | omega) (show ¬ (w 5 k ≠ 2) from by omega) rfl ?_
      refine gx_ld (i := 0) (d := 2) (v := gx_r 383) rfl (fun _ => rfl) l0 rfl rfl ?_
      refine ex_go (S := (179, cl, [.inl 990, gx_r 383, .inl (v4 + (bearn w σ k))], t0, n, 0)) rfl (fun _ => rfl) rfl ?_
      refine gx_ld (i := 0) (d := 2) (v := gx_r 383) rfl (fun _ => rfl) l0 rfl rfl ?_
      refine gx_ref (c := 399) rfl g0 rfl rfl rfl rfl ?_
      refine ex_go (S := (186, cl, [.inl 991, gx_r 399, .inl 990, gx_r 383, .inl (v4 + (bearn w σ k))], t0, n, 0)) rfl (fun _ => rfl) rfl ?_
      refine gx_ld (i := 8) (d := 0) (v := .inl k) rfl (fun _ => rfl) l8 rfl rfl ?_
      refine ex_iadd rfl (by first | decide | omega) rfl ?_
      refine gx_ag (v := .inl (σ (1 + k))) (cb := fun c => Nat.beq c 0) rfl (fun _ => rfl) g0 rfl rfl kp (by first | decide | omega) rfl ?_
      obtain ⟨_, r23, rfl⟩ := sr_isVisited (d + 2) n (p := σ (1 + k)) g0 hR hS hb (by first | decide | omega)
      refine gx_call1 rfl rfl g0 rfl rfl r23 rfl ?_
      show en_ex _ _ _ _ (193, cl, [.inl (b2n (visn w σ (σ (1 + k)) (w 0 2))), .inl (v4 + (bearn w σ k))], t0, n, 0) _
      by_cases hc24 : b2n (visn w σ (σ (1 + k)) (w 0 2)) = 0
      · refine gx_1t (c := .eq) rfl (by first | decide | omega) hc24 rfl ?_
        refine ex_go (S := (201, cl, [.inl 0, .inl (v4 + (bearn w σ k))], t0, n, 0)) rfl (fun _ => rfl) rfl ?_
        refine ex_iadd rfl (by first | decide | omega) rfl ?_
        refine gx_sto (i := 4) (d := 0) rfl (fun _ => rfl) rfl rfl (fun l25 hl25 ml25 => ?_)
        have l25_0 : en_ld l25 0 = some (gx_r 383) := ml25 0 _ l0 rfl
        have l25_2 : en_ld l25 2 = some (.inl st) := ml25 2 _ l2 rfl
        have l25_3 : en_ld l25 3 = some (.inl wh) := ml25 3 _ l3 rfl
        have l25_5 : en_ld l25 5 = some (.inl v5) := ml25 5 _ l5 rfl
        have l25_6 : en_ld l25 6 = some (.inl v6) := ml25 6 _ l6 rfl
        have l25_7 : en_ld l25 7 = some (.inl v7) := ml25 7 _ l7 rfl
        have l25_8 : en_ld l25 8 = some (.inl k) := ml25 8 _ l8 rfl
        refine gx_incS (i := 8) (a := k) (x := 1) rfl (fun _ => rfl) l25_8 (by first | decide | omega) rfl (fun l26 hl26 ml26 => ?_)
        have l26_0 : en_ld l26 0 = some (gx_r 383) := ml26 0 _ l25_0 rfl
        have l26_2 : en_ld l26 2 = some (.inl st) := ml26 2 _ l25_2 rfl
        have l26_3 : en_ld l26 3 = some (.inl wh) := ml26 3 _ l25_3 rfl
        have l26_5 : en_ld l26 5 = some (.inl v5) := ml26 5 _ l25_5 rfl
        have l26_6 : en_ld l26 6 = some (.inl v6) := ml26 6 _ l25_6 rfl
        have l26_7 : en_ld l26 7 = some (.inl v7) := ml26 7 _ l25_7 rfl
        have l26_4 : en_ld l26 4 = some (.inl ((v4 + (bearn w σ k)) + 0)) := ml26 4 _ hl25 rfl
        refine ex_go (S := (154, l26, [], t0, n, 0)) rfl (fun _ => rfl) rfl ?_
        have e9 : v4 + bearn w σ (k + 1) = (v4 + (bearn w σ k)) + 0 := by rw [bearn_y hc9]; omega
        exact ih (k + 1) _ (by first | decide | omega) l26_0 l26_2 l26_3 l26_5 l26_6 l26_7 (by rw [e9]; exact l26_4) hl26
      · refine gx_1f (c := .eq) rfl (by first | decide | omega) hc24 rfl ?_
        refine ex_go (S := (197, cl, [.inl 1, .inl (v4 + (bearn w σ k))], t0, n, 0)) rfl (fun _ => rfl) rfl ?_
        refine ex_go (S := (201, cl, [.inl 1, .inl (v4 + (bearn w σ k))], t0, n, 0)) rfl (fun _ => rfl) rfl ?_
        refine ex_iadd rfl (by first | decide | omega) rfl ?_
        refine gx_sto (i := 4) (d := 0) rfl (fun _ => rfl) rfl rfl (fun l27 hl27 ml27 => ?_)
        have l27_0 : en_ld l27 0 = some (gx_r 383) := ml27 0 _ l0 rfl
        have l27_2 : en_ld l27 2 = some (.inl st) := ml27 2 _ l2 rfl
        have l27_3 : en_ld l27 3 = some (.inl wh) := ml27 3 _ l3 rfl
        have l27_5 : en_ld l27 5 = some (.inl v5) := ml27 5 _ l5 rfl
        have l27_6 : en_ld l27 6 = some (.inl v6) := ml27 6 _ l6 rfl
        have l27_7 : en_ld l27 7 = some (.inl v7) := ml27 7 _ l7 rfl
        have l27_8 : en_ld l27 8 = some (.inl k) := ml27 8 _ l8 rfl
        refine gx_incS (i := 8) (a := k) (x := 1) rfl (fun _ => rfl) l27_8 (by first | decide | omega) rfl (fun l28 hl28 ml28 => ?_)
        have l28_0 : en_ld l28 0 = some (gx_r 383) := ml28 0 _ l27_0 rfl
        have l28_2 : en_ld l28 2 = some (.inl st) := ml28 2 _ l27_2 rfl
        have l28_3 : en_ld l28 3 = some (.inl wh) := ml28 3 _ l27_3 rfl
        have l28_5 : en_ld l28 5 = some (.inl v5) := ml28 5 _ l27_5 rfl
        have l28_6 : en_ld l28 6 = some (.inl v6) := ml28 6 _ l27_6 rfl
        have l28_7 : en_ld l28 7 = some (.inl v7) := ml28 7 _ l27_7 rfl
        have l28_4 : en_ld l28 4 = some (.inl ((v4 + (bearn w σ k)) + 1)) := ml28 4 _ hl27 rfl
        refine ex_go (S := (154, l28, [], t0, n, 0)) rfl (fun _ => rfl) rfl ?_
        have e9 : v4 + bearn w σ (k + 1) = (v4 + (bearn w σ k)) + 1 := by rw [bearn_y hc9]; omega
        exact ih (k + 1) _ (by first | decide | omega) l28_0 l28_2 l28_3 l28_5 l28_6 l28_7 (by rw [e9]; exact l28_4) hl28
    · refine gx_2t (c := .ne) rfl (by first | decide | omega) (by first | decide | omega) (show w 5 k ≠ 2 from by omega) rfl ?_
      refine ex_go (S := (201, cl, [.inl 0, .inl (v4 + (bearn w σ k))], t0, n, 0)) rfl (fun _ => rfl) rfl ?_
      refine ex_iadd rfl (by first | decide | omega) rfl ?_
      refine gx_sto (i := 4) (d := 0) rfl (fun _ => rfl) rfl rfl (fun l29 hl29 ml29 => ?_)
      have l29_0 : en_ld l29 0 = some (gx_r 383) := ml29 0 _ l0 rfl
      have l29_2 : en_ld l29 2 = some (.inl st) := ml29 2 _ l2 rfl
      have l29_3 : en_ld l29 3 = some (.inl wh) := ml29 3 _ l3 rfl
      have l29_5 : en_ld l29 5 = some (.inl v5) := ml29 5 _ l5 rfl
      have l29_6 : en_ld l29 6 = some (.inl v6) := ml29 6 _ l6 rfl
      have l29_7 : en_ld l29 7 = some (.inl v7) := ml29 7 _ l7 rfl
      have l29_8 : en_ld l29 8 = some (.inl k) := ml29 8 _ l8 rfl
      refine gx_incS (i := 8) (a := k) (x := 1) rfl (fun _ => rfl) l29_8 (by first | decide | omega) rfl (fun l30 hl30 ml30 => ?_)
      have l30_0 : en_ld l30 0 = some (gx_r 383) := ml30 0 _ l29_0 rfl
      have l30_2 : en_ld l30 2 = some (.inl st) := ml30 2 _ l29_2 rfl
      have l30_3 : en_ld l30 3 = some (.inl wh) := ml30 3 _ l29_3 rfl
      have l30_5 : en_ld l30 5 = some (.inl v5) := ml30 5 _ l29_5 rfl
      have l30_6 : en_ld l30 6 = some (.inl v6) := ml30 6 _ l29_6 rfl
      have l30_7 : en_ld l30 7 = some (.inl v7) := ml30 7 _ l29_7 rfl
      have l30_4 : en_ld l30 4 = some (.inl ((v4 + (bearn w σ k)) + 0)) := ml30 4 _ hl29 rfl
      refine ex_go (S := (154, l30, [], t0, n, 0)) rfl (fun _ => rfl) rfl ?_
      have e9 : v4 + bearn w σ (k + 1) = (v4 + (bearn w σ k)) + 0 := by rw [bearn_n hc9]; omega
      exact ih (k + 1) _ (by first | decide | omega) l30_0 l30_2 l30_3 l30_5 l30_6 l30_7 (by rw [e9]; exact l30_4) hl30
theorem mr_c (d n : Nat) {t0 : en_H} {w : Nat → Nat → Nat} {L : List Nat} {σ : Nat → Nat} {st wh v4 v5 v6 v7 : Nat} {Q : en_O → Prop} (g0 : ai_HG ah_G t0) (hR : RW t0 w L) (hS : ∀ j, j < 17 → ai_hv t0 399 (990 + j) = some (.inl (σ j))) (hb : sbd σ) (hQ : ∀ cl, en_ld cl 0 = some (gx_r 383) → en_ld cl 2 = some (.inl st) → en_ld cl 3 = some (.inl wh) → en_ld cl 4 = some (.inl v4) → en_ld cl 5 = some (.inl v5) → en_ld cl 6 = some (.inl v6) → en_ld cl 7 = some (.inl v7) → en_ld cl 8 = some (.inl (b2n (hun σ (w 0 4)))) → en_ex none (en_u (d + 5)) (en_code 82) (fun _ => false) (257, cl, [], t0, n, 0) Q) : ∀ j k cl, k + j = w 0 4 → en_ld cl 0 = some (gx_r 383) → en_ld cl 2 = some (.inl st) → en_ld cl 3 = some (.inl wh) → en_ld cl 4 = some (.inl v4) → en_ld cl 5 = some (.inl v5) → en_ld cl 6 = some (.inl v6) → en_ld cl 7 = some (.inl v7) → en_ld cl 8 = some (.inl (b2n (hun σ k))) → en_ld cl 9 = some (.inl k) → en_ex none (en_u (d + 5)) (en_code 82) (fun _ => false) (216, cl, [], t0, n, 0) Q := by
  have hK := hR.2.1.2.2.2.2.1
  intro j
  induction j with
  | zero =>
    intro k cl hk l0 l2 l3 l4 l5 l6 l7 l8 l9
    have hk : k = w 0 4 := by omega
    rw [hk] at l8
    refine gx_ld (i := 9) (d := 0) (v := .inl k) rfl (fun _ => rfl) l9 rfl rfl ?_
    refine gx_ld (i := 0) (d := 2) (v := gx_r 383) rfl (fun _ => rfl) l0 rfl rfl ?_
    obtain ⟨_, r21, rfl⟩ := sr_crews (d + 4) n g0 (hR.1 4 (by decide))
    refine gx_call1 rfl rfl g0 rfl rfl r21 rfl ?_
    show en_ex _ _ _ _ (222, cl, [.inl (w 0 4), .inl k], t0, n, 0) _
    refine gx_2t (c := .ge) rfl (by first | decide | omega) (by first | decide | omega) (show w 0 4 ≤ k from by omega) rfl ?_
    exact hQ _ l0 l2 l3 l4 l5 l6 l7 l8
  | succ j ih =>
    intro k cl hk l0 l2 l3 l4 l5 l6 l7 l8 l9
    have kp : ai_hv t0 399 (997 + k) = some (.inl (σ (7 + k))) := by
      have h9 := hS (7 + k) (by first | decide | omega)
      rw [show 990 + (7 + k) = 997 + k by omega] at h9
      exact h9
    have hbi : σ (7 + k) ≤ 19998 := by
      rcases (show k = 0 ∨ k = 1 by omega) with rfl | rfl
      · exact hb.2.1.1
      · exact hb.2.1.2
    cases hv : hun σ k
    · rw [hv] at l8
      refine gx_ld (i := 9) (d := 0) (v := .inl k) rfl (fun _ => rfl) l9 rfl rfl ?_
      refine gx_ld (i := 0) (d := 2) (v := gx_r 383) rfl (fun _ => rfl) l0 rfl rfl ?_
      obtain ⟨_, r21, rfl⟩ := sr_crews (d + 4) n g0 (hR.1 4 (by decide))
      refine gx_call1 rfl rfl g0 rfl rfl r21 rfl ?_
      show en_ex _ _ _ _ (222, cl, [.inl (w 0 4), .inl k], t0, n, 0) _
      refine gx_2f (c := .ge) rfl (by first | decide | omega) (by first | decide | omega) (show ¬ (w 0 4 ≤ k) from by omega) rfl ?_
      refine gx_ld (i := 8) (d := 0) (v := .inl 0) rfl (fun _ => rfl) l8 rfl rfl ?_
      refine ex_go (S := (230, cl, [], t0, n, 0)) rfl (fun _ => rfl) rfl ?_
      refine gx_ld (i := 0) (d := 2) (v := gx_r 383) rfl (fun _ => rfl) l0 rfl rfl ?_
      refine gx_ref (c := 399) rfl g0 rfl rfl rfl rfl ?_
      refine ex_go (S := (237, cl, [.inl 997, gx_r 399], t0, n, 0)) rfl (fun _ => rfl) rfl ?_
      refine gx_ld (i := 9) (d := 0) (v := .inl k) rfl (fun _ => rfl) l9 rfl rfl ?_
      refine ex_iadd rfl (by first | decide | omega) rfl ?_
      refine gx_ag (v := .inl (σ (7 + k))) (cb := fun c => Nat.beq c 0) rfl (fun _ => rfl) g0 rfl rfl kp (by first | decide | omega) rfl ?_
      by_cases hc22 : σ (7 + k) ≠ 0
      · refine gx_1t (c := .ne) rfl (by first | decide | omega) hc22 rfl ?_
        refine ex_go (S := (249, cl, [.inl 0], t0, n, 0)) rfl (fun _ => rfl) rfl ?_
        refine gx_sto (i := 8) (d := 0) rfl (fun _ => rfl) rfl rfl (fun l23 hl23 ml23 => ?_)
        have l23_0 : en_ld l23 0 = some (gx_r 383) := ml23 0 _ l0 rfl
        have l23_2 : en_ld l23 2 = some (.inl st) := ml23 2 _ l2 rfl
        have l23_3 : en_ld l23 3 = some (.inl wh) := ml23 3 _ l3 rfl
        have l23_4 : en_ld l23 4 = some (.inl v4) := ml23 4 _ l4 rfl
        have l23_5 : en_ld l23 5 = some (.inl v5) := ml23 5 _ l5 rfl
        have l23_6 : en_ld l23 6 = some (.inl v6) := ml23 6 _ l6 rfl
        have l23_7 : en_ld l23 7 = some (.inl v7) := ml23 7 _ l7 rfl
        have l23_9 : en_ld l23 9 = some (.inl k) := ml23 9 _ l9 rfl
        refine gx_incS (i := 9) (a := k) (x := 1) rfl (fun _ => rfl) l23_9 (by first | decide | omega) rfl (fun l24 hl24 ml24 => ?_)
        have l24_0 : en_ld l24 0 = some (gx_r 383) := ml24 0 _ l23_0 rfl
        have l24_2 : en_ld l24 2 = some (.inl st) := ml24 2 _ l23_2 rfl
        have l24_3 : en_ld l24 3 = some (.inl wh) := ml24 3 _ l23_3 rfl
        have l24_4 : en_ld l24 4 = some (.inl v4) := ml24 4 _ l23_4 rfl
        have l24_5 : en_ld l24 5 = some (.inl v5) := ml24 5 _ l23_5 rfl
        have l24_6 : en_ld l24 6 = some (.inl v6) := ml24 6 _ l23_6 rfl
        have l24_7 : en_ld l24 7 = some (.inl v7) := ml24 7 _ l23_7 rfl
        have l24_8 : en_ld l24 8 = some (.inl 0) := ml24 8 _ hl23 rfl
        refine ex_go (S := (216, l24, [], t0, n, 0)) rfl (fun _ => rfl) rfl ?_
        exact ih (k + 1) _ (by first | decide | omega) l24_0 l24_2 l24_3 l24_4 l24_5 l24_6 l24_7 (by rw [hun_n hv (by first | decide | omega)]; exact l24_8) hl24
      · refine gx_1f (c := .ne) rfl (by first | decide | omega) hc22 rfl ?_
        refine ex_go (S := (245, cl, [.inl 1], t0, n, 0)) rfl (fun _ => rfl) rfl ?_
        refine ex_go (S := (249, cl, [.inl 1], t0, n, 0)) rfl (fun _ => rfl) rfl ?_
        refine gx_sto (i := 8) (d := 0) rfl (fun _ => rfl) rfl rfl (fun l25 hl25 ml25 => ?_)
        have l25_0 : en_ld l25 0 = some (gx_r 383) := ml25 0 _ l0 rfl
        have l25_2 : en_ld l25 2 = some (.inl st) := ml25 2 _ l2 rfl
        have l25_3 : en_ld l25 3 = some (.inl wh) := ml25 3 _ l3 rfl
        have l25_4 : en_ld l25 4 = some (.inl v4) := ml25 4 _ l4 rfl
        have l25_5 : en_ld l25 5 = some (.inl v5) := ml25 5 _ l5 rfl
        have l25_6 : en_ld l25 6 = some (.inl v6) := ml25 6 _ l6 rfl
        have l25_7 : en_ld l25 7 = some (.inl v7) := ml25 7 _ l7 rfl
        have l25_9 : en_ld l25 9 = some (.inl k) := ml25 9 _ l9 rfl
        refine gx_incS (i := 9) (a := k) (x := 1) rfl (fun _ => rfl) l25_9 (by first | decide | omega) rfl (fun l26 hl26 ml26 => ?_)
        have l26_0 : en_ld l26 0 = some (gx_r 383) := ml26 0 _ l25_0 rfl
        have l26_2 : en_ld l26 2 = some (.inl st) := ml26 2 _ l25_2 rfl
        have l26_3 : en_ld l26 3 = some (.inl wh) := ml26 3 _ l25_3 rfl
        have l26_4 : en_ld l26 4 = some (.inl v4) := ml26 4 _ l25_4 rfl
        have l26_5 : en_ld l26 5 = some (.inl v5) := ml26 5 _ l25_5 rfl
        have l26_6 : en_ld l26 6 = some (.inl v6) := ml26 6 _ l25_6 rfl
        have l26_7 : en_ld l26 7 = some (.inl v7) := ml26 7 _ l25_7 rfl
        have l26_8 : en_ld l26 8 = some (.inl 1) := ml26 8 _ hl25 rfl
        refine ex_go (S := (216, l26, [], t0, n, 0)) rfl (fun _ => rfl) rfl ?_
        exact ih (k + 1) _ (by first | decide | omega) l26_0 l26_2 l26_3 l26_4 l26_5 l26_6 l26_7 (by rw [hun_y (Or.inr (by first | decide | omega))]; exact l26_8) hl26
    · rw [hv] at l8
      refine gx_ld (i := 9) (d := 0) (v := .inl k) rfl (fun _ => rfl) l9 rfl rfl ?_
      refine gx_ld (i := 0) (d := 2) (v := gx_r 383) rfl (fun _ => rfl) l0 rfl rfl ?_
      obtain ⟨_, r27, rfl⟩ := sr_crews (d + 4) n g0 (hR.1 4 (by decide))
      refine gx_call1 rfl rfl g0 rfl rfl r27 rfl ?_
      show en_ex _ _ _ _ (222, cl, [.inl (w 0 4), .inl k], t0, n, 0) _
      refine gx_2f (c := .ge) rfl (by first | decide | omega) (by first | decide | omega) (show ¬ (w 0 4 ≤ k) from by omega) rfl ?_
      refine gx_ld (i := 8) (d := 0) (v := .inl 1) rfl (fun _ => rfl) l8 rfl rfl ?_
      refine ex_go (S := (244, cl, [], t0, n, 0)) rfl (fun _ => rfl) rfl ?_
      refine ex_go (S := (245, cl, [.inl 1], t0, n, 0)) rfl (fun _ => rfl) rfl ?_
      refine ex_go (S := (249, cl, [.inl 1], t0, n, 0)) rfl (fun _ => rfl) rfl ?_
      refine gx_sto (i := 8) (d := 0) rfl (fun _ => rfl) rfl rfl (fun l28 hl28 ml28 => ?_)
      have l28_0 : en_ld l28 0 = some (gx_r 383) := ml28 0 _ l0 rfl
      have l28_2 : en_ld l28 2 = some (.inl st) := ml28 2 _ l2 rfl
      have l28_3 : en_ld l28 3 = some (.inl wh) := ml28 3 _ l3 rfl
      have l28_4 : en_ld l28 4 = some (.inl v4) := ml28 4 _ l4 rfl
      have l28_5 : en_ld l28 5 = some (.inl v5) := ml28 5 _ l5 rfl
      have l28_6 : en_ld l28 6 = some (.inl v6) := ml28 6 _ l6 rfl
      have l28_7 : en_ld l28 7 = some (.inl v7) := ml28 7 _ l7 rfl
      have l28_9 : en_ld l28 9 = some (.inl k) := ml28 9 _ l9 rfl
      refine gx_incS (i := 9) (a := k) (x := 1) rfl (fun _ => rfl) l28_9 (by first | decide | omega) rfl (fun l29 hl29 ml29 => ?_)
      have l29_0 : en_ld l29 0 = some (gx_r 383) := ml29 0 _ l28_0 rfl
      have l29_2 : en_ld l29 2 = some (.inl st) := ml29 2 _ l28_2 rfl
      have l29_3 : en_ld l29 3 = some (.inl wh) := ml29 3 _ l28_3 rfl
      have l29_4 : en_ld l29 4 = some (.inl v4) := ml29 4 _ l28_4 rfl
      have l29_5 : en_ld l29 5 = some (.inl v5) := ml29 5 _ l28_5 rfl
      have l29_6 : en_ld l29 6 = some (.inl v6) := ml29 6 _ l28_6 rfl
      have l29_7 : en_ld l29 7 = some (.inl v7) := ml29 7 _ l28_7 rfl
      have l29_8 : en_ld l29 8 = some (.inl 1) := ml29 8 _ hl28 rfl
      refine ex_go (S := (216, l29, [], t0, n, 0)) rfl (fun _ => rfl) rfl ?_
      exact ih (k + 1) _ (by first | decide | omega) l29_0 l29_2 l29_3 l29_4 l29_5 l29_6 l29_7 (by rw [hun_y (Or.inl hv)]; exact l29_8) hl29
theorem mo_l (d n : Nat) {tb : en_H} {w : Nat → Nat → Nat} {L : List Nat} {σ : Nat → Nat} {g st wh : Nat} {Q : en_O → Prop} (hR : RW tb w L) (hb : sbd σ) (hg : g < 2147483648) (hst : st ≤ 100) (hwh : wh ≤ 2) (hQ : ∀ t1 v0, ai_HG ah_G t1 → (∀ c i, ¬ ((c = 383 ∧ i = 40) ∨ (c = 399 ∧ 990 ≤ i ∧ i < 1007) ∨ (c = 397 ∧ i < 3) ∨ c = 398) → ai_hv t1 c i = ai_hv tb c i) → v0 = (if wh = 0 then mov w L σ g st else if wh = 1 then moe w L σ g st else moh w L σ g st) → Q (.inl (some (.inl v0), t1, n, 0))) : ∀ j k cl t0, k + j = st → ai_HG ah_G t0 → (∀ c i, ¬ ((c = 383 ∧ i = 40) ∨ (c = 399 ∧ 990 ≤ i ∧ i < 1007) ∨ (c = 397 ∧ i < 3) ∨ c = 398) → ai_hv t0 c i = ai_hv tb c i) → ai_hv t0 383 40 = some (.inr (.inl (mos w L σ g k).2)) → (∀ j, j < 17 → ai_hv t0 399 (990 + j) = some (.inl ((mos w L σ g k).1 j))) → en_ld cl 0 = some (gx_r 383) → en_ld cl 2 = some (.inl st) → en_ld cl 3 = some (.inl wh) → en_ld cl 4 = some (.inl (mov w L σ g k)) → en_ld cl 5 = some (.inl (moe w L σ g k)) → en_ld cl 6 = some (.inl (moh w L σ g k)) → en_ld cl 7 = some (.inl k) → en_ex none (en_u (d + 5)) (en_code 82) (fun _ => false) (65, cl, [], t0, n, 0) Q := by
  have hT := hR.2.1.2.2.1
  intro j
  induction j with
  | zero =>
    intro k cl t0 hk g0 e0 kg ks l0 l2 l3 l4 l5 l6 l7
    obtain ⟨⟨hbk, hgk⟩, hm4, hm5, hm6⟩ := mo_bd (L := L) (WS_of hR) hb hg k
    have hk : k = st := by omega
    subst hk
    refine gx_ld (i := 7) (d := 0) (v := .inl k) rfl (fun _ => rfl) l7 rfl rfl ?_
    refine gx_ld (i := 2) (d := 0) (v := .inl k) rfl (fun _ => rfl) l2 rfl rfl ?_
    refine gx_2t (c := .ge) rfl (by first | decide | omega) (by first | decide | omega) (show k ≤ k from by omega) rfl ?_
    refine gx_ld (i := 3) (d := 0) (v := .inl wh) rfl (fun _ => rfl) l3 rfl rfl ?_
    by_cases hc21 : wh ≠ 0
    · refine gx_1t (c := .ne) rfl (by first | decide | omega) hc21 rfl ?_
      refine gx_ld (i := 3) (d := 0) (v := .inl wh) rfl (fun _ => rfl) l3 rfl rfl ?_
      refine ex_go (S := (289, cl, [.inl 1, .inl wh], t0, n, 0)) rfl (fun _ => rfl) rfl ?_
      by_cases hc22 : wh ≠ 1
      · refine gx_2t (c := .ne) rfl (by first | decide | omega) (by first | decide | omega) hc22 rfl ?_
        refine gx_ld (i := 6) (d := 0) (v := .inl (moh w L σ g k)) rfl (fun _ => rfl) l6 rfl rfl ?_
        refine ex_ret (r := (some (.inl (moh w L σ g k)), t0, n, 0)) rfl (fun _ => rfl) ?_
        exact hQ _ _ g0 e0 (by rw [if_neg (by first | decide | omega), if_neg (by first | decide | omega)])
      · refine gx_2f (c := .ne) rfl (by first | decide | omega) (by first | decide | omega) hc22 rfl ?_
        refine gx_ld (i := 5) (d := 0) (v := .inl (moe w L σ g k)) rfl (fun _ => rfl) l5 rfl rfl ?_
        refine ex_go (S := (299, cl, [.inl (moe w L σ g k)], t0, n, 0)) rfl (fun _ => rfl) rfl ?_
        refine ex_ret (r := (some (.inl (moe w L σ g k)), t0, n, 0)) rfl (fun _ => rfl) ?_
        exact hQ _ _ g0 e0 (by rw [if_neg (by first | decide | omega), if_pos (by first | decide | omega)])
    · refine gx_1f (c := .ne) rfl (by first | decide | omega) hc21 rfl ?_
      refine gx_ld (i := 4) (d := 0) (v := .inl (mov w L σ g k)) rfl (fun _ => rfl) l4 rfl rfl ?_
      refine ex_go (S := (299, cl, [.inl (mov w L σ g k)], t0, n, 0)) rfl (fun _ => rfl) rfl ?_
      refine ex_ret (r := (some (.inl (mov w L σ g k)), t0, n, 0)) rfl (fun _ => rfl) ?_
      exact hQ _ _ g0 e0 (by rw [if_pos (by first | decide | omega)])
  | succ j ih =>
    intro k cl t0 hk g0 e0 kg ks l0 l2 l3 l4 l5 l6 l7
    obtain ⟨⟨hbk, hgk⟩, hm4, hm5, hm6⟩ := mo_bd (L := L) (WS_of hR) hb hg k
    refine gx_ld (i := 7) (d := 0) (v := .inl k) rfl (fun _ => rfl) l7 rfl rfl ?_
    refine gx_ld (i := 2) (d := 0) (v := .inl st) rfl (fun _ => rfl) l2 rfl rfl ?_
    refine gx_2f (c := .ge) rfl (by first | decide | omega) (by first | decide | omega) (show ¬ (st ≤ k) from by omega) rfl ?_
    refine ex_go (S := (72, cl, [.inl 0], t0, n, 0)) rfl (fun _ => rfl) rfl ?_
    refine gx_sto (i := 8) (d := 0) rfl (fun _ => rfl) rfl rfl (fun l21 hl21 ml21 => ?_)
    have l21_0 : en_ld l21 0 = some (gx_r 383) := ml21 0 _ l0 rfl
    have l21_2 : en_ld l21 2 = some (.inl st) := ml21 2 _ l2 rfl
    have l21_3 : en_ld l21 3 = some (.inl wh) := ml21 3 _ l3 rfl
    have l21_4 : en_ld l21 4 = some (.inl (mov w L σ g k)) := ml21 4 _ l4 rfl
    have l21_5 : en_ld l21 5 = some (.inl (moe w L σ g k)) := ml21 5 _ l5 rfl
    have l21_6 : en_ld l21 6 = some (.inl (moh w L σ g k)) := ml21 6 _ l6 rfl
    have l21_7 : en_ld l21 7 = some (.inl k) := ml21 7 _ l7 rfl
    refine mr_a d n (tb := t0) (σ := (mos w L σ g k).1) (g := (mos w L σ g k).2) (st := st) (wh := wh) (v4 := mov w L σ g k) (v5 := moe w L σ g k) (v6 := moh w L σ g k) (v7 := k) (RW_keep hR (fun i hi => e0 389 i (by first | decide | omega)) (fun c i hc _ => e0 c i (by first | decide | omega))) hgk hbk.1 (fun cl122 t122 g122 e122 kg122 i122 l1220 l1222 l1223 l1224 l1225 l1226 l1227 => ?_) (w 0 2) 0 _ _ (by first | decide | omega) g0 (fun _ _ _ => rfl) kg (fun i hi => ?_) l21_0 l21_2 l21_3 l21_4 l21_5 l21_6 l21_7 hl21
    · have ks1 : ∀ j, j < 17 → ai_hv t122 399 (990 + j) = some (.inl ((stray w (mos w L σ g k).2 (mos w L σ g k).1) j)) := by
        intro j hj
        by_cases c9 : 1 ≤ j ∧ j ≤ 6
        · obtain ⟨i, rfl, hi⟩ : ∃ i, j = 1 + i ∧ i < 6 := ⟨j - 1, by omega, by omega⟩
          rw [stray_pl hi, show 990 + (1 + i) = 991 + i by omega]
          exact i122 i hi
        · rw [stray_o (by first | decide | omega)]
          exact (e122 399 (990 + j) (by first | decide | omega)).trans (ks j hj)
      refine gx_ld (i := 5) (d := 0) (v := .inl (moe w L σ g k)) rfl (fun _ => rfl) l1225 rfl rfl ?_
      refine gx_ld (i := 0) (d := 2) (v := gx_r 383) rfl (fun _ => rfl) l1220 rfl rfl ?_
      refine ex_go (S := (145, cl122, [.inl 990, gx_r 383, .inl (moe w L σ g k)], t122, n, 0)) rfl (fun _ => rfl) rfl ?_
      obtain ⟨_, r123, t123, rfl, g123, e123, ks2⟩ := sr_passes990 d n (σ := (stray w (mos w L σ g k).2 (mos w L σ g k).1)) g122 (RW_keep hR (fun i hi => (e122 389 i (by first | decide | omega)).trans (e0 389 i (by first | decide | omega))) (fun c i hc _ => (e122 c i (by first | decide | omega)).trans (e0 c i (by first | decide | omega)))) ks1
      have hea := eaten_le (w := w) (L := L) (σ := (stray w (mos w L σ g k).2 (mos w L σ g k).1))
      have hb2 := (mo_bd (L := L) (WS_of hR) hb hg (k + 1)).1.1
      refine gx_call1 rfl rfl g122 rfl rfl r123 rfl ?_
      show en_ex _ _ _ _ (148, cl122, [.inl (eaten w L (stray w (mos w L σ g k).2 (mos w L σ g k).1)), .inl (moe w L σ g k)], t123, n, 0) _
      refine ex_iadd rfl (by first | decide | omega) rfl ?_
      refine gx_sto (i := 5) (d := 0) rfl (fun _ => rfl) rfl rfl (fun l24 hl24 ml24 => ?_)
      have l24_0 : en_ld l24 0 = some (gx_r 383) := ml24 0 _ l1220 rfl
      have l24_2 : en_ld l24 2 = some (.inl st) := ml24 2 _ l1222 rfl
      have l24_3 : en_ld l24 3 = some (.inl wh) := ml24 3 _ l1223 rfl
      have l24_4 : en_ld l24 4 = some (.inl (mov w L σ g k)) := ml24 4 _ l1224 rfl
      have l24_6 : en_ld l24 6 = some (.inl (moh w L σ g k)) := ml24 6 _ l1226 rfl
      have l24_7 : en_ld l24 7 = some (.inl k) := ml24 7 _ l1227 rfl
      refine ex_go (S := (152, l24, [.inl 0], t123, n, 0)) rfl (fun _ => rfl) rfl ?_
      refine gx_sto (i := 8) (d := 0) rfl (fun _ => rfl) rfl rfl (fun l25 hl25 ml25 => ?_)
      have l25_0 : en_ld l25 0 = some (gx_r 383) := ml25 0 _ l24_0 rfl
      have l25_2 : en_ld l25 2 = some (.inl st) := ml25 2 _ l24_2 rfl
      have l25_3 : en_ld l25 3 = some (.inl wh) := ml25 3 _ l24_3 rfl
      have l25_4 : en_ld l25 4 = some (.inl (mov w L σ g k)) := ml25 4 _ l24_4 rfl
      have l25_6 : en_ld l25 6 = some (.inl (moh w L σ g k)) := ml25 6 _ l24_6 rfl
      have l25_7 : en_ld l25 7 = some (.inl k) := ml25 7 _ l24_7 rfl
      have l25_5 : en_ld l25 5 = some (.inl ((moe w L σ g k) + (eaten w L (stray w (mos w L σ g k).2 (mos w L σ g k).1)))) := ml25 5 _ hl24 rfl
      refine mr_b d n (σ := (mos w L σ g (k + 1)).1) (st := st) (wh := wh) (v4 := mov w L σ g k) (v5 := (moe w L σ g k) + (eaten w L (stray w (mos w L σ g k).2 (mos w L σ g k).1))) (v6 := moh w L σ g k) (v7 := k) g123 (RW_keep hR (fun i hi => (e123 389 i (by first | decide | omega)).trans ((e122 389 i (by first | decide | omega)).trans (e0 389 i (by first | decide | omega)))) (fun c i hc _ => (e123 c i (by first | decide | omega)).trans ((e122 c i (by first | decide | omega)).trans (e0 c i (by first | decide | omega))))) ks2 hb2 (by first | decide | omega) (fun cl126 l1260 l1262 l1263 l1265 l1266 l1267 l1264 => ?_) (w 0 2) 0 _ (by first | decide | omega) l25_0 l25_2 l25_3 l25_5 l25_6 l25_7 l25_4 hl25
      refine ex_go (S := (211, cl126, [.inl 0], t123, n, 0)) rfl (fun _ => rfl) rfl ?_
      refine gx_sto (i := 8) (d := 0) rfl (fun _ => rfl) rfl rfl (fun l27 hl27 ml27 => ?_)
      have l27_0 : en_ld l27 0 = some (gx_r 383) := ml27 0 _ l1260 rfl
      have l27_2 : en_ld l27 2 = some (.inl st) := ml27 2 _ l1262 rfl
      have l27_3 : en_ld l27 3 = some (.inl wh) := ml27 3 _ l1263 rfl
      have l27_4 : en_ld l27 4 = some (.inl (mov w L σ g k + (bearn w (mos w L σ g (k + 1)).1 (w 0 2)))) := ml27 4 _ l1264 rfl
      have l27_5 : en_ld l27 5 = some (.inl ((moe w L σ g k) + (eaten w L (stray w (mos w L σ g k).2 (mos w L σ g k).1)))) := ml27 5 _ l1265 rfl
      have l27_6 : en_ld l27 6 = some (.inl (moh w L σ g k)) := ml27 6 _ l1266 rfl
      have l27_7 : en_ld l27 7 = some (.inl k) := ml27 7 _ l1267 rfl
      refine ex_go (S := (214, l27, [.inl 0], t123, n, 0)) rfl (fun _ => rfl) rfl ?_
      refine gx_sto (i := 9) (d := 0) rfl (fun _ => rfl) rfl rfl (fun l28 hl28 ml28 => ?_)
      have l28_0 : en_ld l28 0 = some (gx_r 383) := ml28 0 _ l27_0 rfl
      have l28_2 : en_ld l28 2 = some (.inl st) := ml28 2 _ l27_2 rfl
      have l28_3 : en_ld l28 3 = some (.inl wh) := ml28 3 _ l27_3 rfl
      have l28_4 : en_ld l28 4 = some (.inl (mov w L σ g k + (bearn w (mos w L σ g (k + 1)).1 (w 0 2)))) := ml28 4 _ l27_4 rfl
      have l28_5 : en_ld l28 5 = some (.inl ((moe w L σ g k) + (eaten w L (stray w (mos w L σ g k).2 (mos w L σ g k).1)))) := ml28 5 _ l27_5 rfl
      have l28_6 : en_ld l28 6 = some (.inl (moh w L σ g k)) := ml28 6 _ l27_6 rfl
      have l28_7 : en_ld l28 7 = some (.inl k) := ml28 7 _ l27_7 rfl
      have l28_8 : en_ld l28 8 = some (.inl 0) := ml28 8 _ hl27 rfl
      have hbn := bearn_le (w := w) (σ := (mos w L σ g (k + 1)).1) (w 0 2)
      have hh2 := b2n_le (hun (mos w L σ g (k + 1)).1 (w 0 4))
      refine mr_c d n (σ := (mos w L σ g (k + 1)).1) (st := st) (wh := wh) (v4 := mov w L σ g k + (bearn w (mos w L σ g (k + 1)).1 (w 0 2))) (v5 := (moe w L σ g k) + (eaten w L (stray w (mos w L σ g k).2 (mos w L σ g k).1))) (v6 := moh w L σ g k) (v7 := k) g123 (RW_keep hR (fun i hi => (e123 389 i (by first | decide | omega)).trans ((e122 389 i (by first | decide | omega)).trans (e0 389 i (by first | decide | omega)))) (fun c i hc _ => (e123 c i (by first | decide | omega)).trans ((e122 c i (by first | decide | omega)).trans (e0 c i (by first | decide | omega))))) ks2 hb2 (fun cl129 l1290 l1292 l1293 l1294 l1295 l1296 l1297 l1298 => ?_) (w 0 4) 0 _ (by first | decide | omega) l28_0 l28_2 l28_3 l28_4 l28_5 l28_6 l28_7 l28_8 hl28
      cases hh9 : hun (mos w L σ g (k + 1)).1 (w 0 4)
      · rw [hh9] at l1298
        refine gx_ld (i := 6) (d := 0) (v := .inl (moh w L σ g k)) rfl (fun _ => rfl) l1296 rfl rfl ?_
        refine gx_ld (i := 8) (d := 0) (v := .inl 0) rfl (fun _ => rfl) l1298 rfl rfl ?_
        refine ex_go (S := (268, cl129, [.inl (moh w L σ g k)], t123, n, 0)) rfl (fun _ => rfl) rfl ?_
        refine ex_go (S := (269, cl129, [.inl 0, .inl (moh w L σ g k)], t123, n, 0)) rfl (fun _ => rfl) rfl ?_
        refine ex_iadd rfl (by first | decide | omega) rfl ?_
        refine gx_sto (i := 6) (d := 0) rfl (fun _ => rfl) rfl rfl (fun l30 hl30 ml30 => ?_)
        have l30_0 : en_ld l30 0 = some (gx_r 383) := ml30 0 _ l1290 rfl
        have l30_2 : en_ld l30 2 = some (.inl st) := ml30 2 _ l1292 rfl
        have l30_3 : en_ld l30 3 = some (.inl wh) := ml30 3 _ l1293 rfl
        have l30_4 : en_ld l30 4 = some (.inl (mov w L σ g k + (bearn w (mos w L σ g (k + 1)).1 (w 0 2)))) := ml30 4 _ l1294 rfl
        have l30_5 : en_ld l30 5 = some (.inl ((moe w L σ g k) + (eaten w L (stray w (mos w L σ g k).2 (mos w L σ g k).1)))) := ml30 5 _ l1295 rfl
        have l30_7 : en_ld l30 7 = some (.inl k) := ml30 7 _ l1297 rfl
        have l30_8 : en_ld l30 8 = some (.inl 0) := ml30 8 _ l1298 rfl
        refine gx_incS (i := 7) (a := k) (x := 1) rfl (fun _ => rfl) l30_7 (by first | decide | omega) rfl (fun l31 hl31 ml31 => ?_)
        have l31_0 : en_ld l31 0 = some (gx_r 383) := ml31 0 _ l30_0 rfl
        have l31_2 : en_ld l31 2 = some (.inl st) := ml31 2 _ l30_2 rfl
        have l31_3 : en_ld l31 3 = some (.inl wh) := ml31 3 _ l30_3 rfl
        have l31_4 : en_ld l31 4 = some (.inl (mov w L σ g k + (bearn w (mos w L σ g (k + 1)).1 (w 0 2)))) := ml31 4 _ l30_4 rfl
        have l31_5 : en_ld l31 5 = some (.inl ((moe w L σ g k) + (eaten w L (stray w (mos w L σ g k).2 (mos w L σ g k).1)))) := ml31 5 _ l30_5 rfl
        have l31_8 : en_ld l31 8 = some (.inl 0) := ml31 8 _ l30_8 rfl
        have l31_6 : en_ld l31 6 = some (.inl ((moh w L σ g k) + 0)) := ml31 6 _ hl30 rfl
        refine ex_go (S := (65, l31, [], t123, n, 0)) rfl (fun _ => rfl) rfl ?_
        have e4 : mov w L σ g (k + 1) = mov w L σ g k + (bearn w (mos w L σ g (k + 1)).1 (w 0 2)) := rfl
        have e5 : moe w L σ g (k + 1) = (moe w L σ g k) + (eaten w L (stray w (mos w L σ g k).2 (mos w L σ g k).1)) := rfl
        have e6 : moh w L σ g (k + 1) = (moh w L σ g k) + 0 := by show moh w L σ g k + b2n (hun (mos w L σ g (k + 1)).1 (w 0 4)) = _; rw [hh9]; rfl
        exact ih (k + 1) _ _ (by first | decide | omega) g123 (fun c i h => (e123 c i (by first | decide | omega)).trans ((e122 c i (by first | decide | omega)).trans (e0 c i (by first | decide | omega)))) ((e123 383 40 (by first | decide | omega)).trans kg122) ks2 l31_0 l31_2 l31_3 (by rw [e4]; exact l31_4) (by rw [e5]; exact l31_5) (by rw [e6]; exact l31_6) hl31
      · rw [hh9] at l1298
        refine gx_ld (i := 6) (d := 0) (v := .inl (moh w L σ g k)) rfl (fun _ => rfl) l1296 rfl rfl ?_
        refine gx_ld (i := 8) (d := 0) (v := .inl 1) rfl (fun _ => rfl) l1298 rfl rfl ?_
        refine ex_go (S := (264, cl129, [.inl (moh w L σ g k)], t123, n, 0)) rfl (fun _ => rfl) rfl ?_
        refine ex_go (S := (265, cl129, [.inl 1, .inl (moh w L σ g k)], t123, n, 0)) rfl (fun _ => rfl) rfl ?_
        refine ex_go (S := (269, cl129, [.inl 1, .inl (moh w L σ g k)], t123, n, 0)) rfl (fun _ => rfl) rfl ?_
        refine ex_iadd rfl (by first | decide | omega) rfl ?_
        refine gx_sto (i := 6) (d := 0) rfl (fun _ => rfl) rfl rfl (fun l32 hl32 ml32 => ?_)
        have l32_0 : en_ld l32 0 = some (gx_r 383) := ml32 0 _ l1290 rfl
        have l32_2 : en_ld l32 2 = some (.inl st) := ml32 2 _ l1292 rfl
        have l32_3 : en_ld l32 3 = some (.inl wh) := ml32 3 _ l1293 rfl
        have l32_4 : en_ld l32 4 = some (.inl (mov w L σ g k + (bearn w (mos w L σ g (k + 1)).1 (w 0 2)))) := ml32 4 _ l1294 rfl
        have l32_5 : en_ld l32 5 = some (.inl ((moe w L σ g k) + (eaten w L (stray w (mos w L σ g k).2 (mos w L σ g k).1)))) := ml32 5 _ l1295 rfl
        have l32_7 : en_ld l32 7 = some (.inl k) := ml32 7 _ l1297 rfl
        have l32_8 : en_ld l32 8 = some (.inl 1) := ml32 8 _ l1298 rfl
        refine gx_incS (i := 7) (a := k) (x := 1) rfl (fun _ => rfl) l32_7 (by first | decide | omega) rfl (fun l33 hl33 ml33 => ?_)
        have l33_0 : en_ld l33 0 = some (gx_r 383) := ml33 0 _ l32_0 rfl
        have l33_2 : en_ld l33 2 = some (.inl st) := ml33 2 _ l32_2 rfl
        have l33_3 : en_ld l33 3 = some (.inl wh) := ml33 3 _ l32_3 rfl
        have l33_4 : en_ld l33 4 = some (.inl (mov w L σ g k + (bearn w (mos w L σ g (k + 1)).1 (w 0 2)))) := ml33 4 _ l32_4 rfl
        have l33_5 : en_ld l33 5 = some (.inl ((moe w L σ g k) + (eaten w L (stray w (mos w L σ g k).2 (mos w L σ g k).1)))) := ml33 5 _ l32_5 rfl
        have l33_8 : en_ld l33 8 = some (.inl 1) := ml33 8 _ l32_8 rfl
        have l33_6 : en_ld l33 6 = some (.inl ((moh w L σ g k) + 1)) := ml33 6 _ hl32 rfl
        refine ex_go (S := (65, l33, [], t123, n, 0)) rfl (fun _ => rfl) rfl ?_
        have e4 : mov w L σ g (k + 1) = mov w L σ g k + (bearn w (mos w L σ g (k + 1)).1 (w 0 2)) := rfl
        have e5 : moe w L σ g (k + 1) = (moe w L σ g k) + (eaten w L (stray w (mos w L σ g k).2 (mos w L σ g k).1)) := rfl
        have e6 : moh w L σ g (k + 1) = (moh w L σ g k) + 1 := by show moh w L σ g k + b2n (hun (mos w L σ g (k + 1)).1 (w 0 4)) = _; rw [hh9]; rfl
        exact ih (k + 1) _ _ (by first | decide | omega) g123 (fun c i h => (e123 c i (by first | decide | omega)).trans ((e122 c i (by first | decide | omega)).trans (e0 c i (by first | decide | omega)))) ((e123 383 40 (by first | decide | omega)).trans kg122) ks2 l33_0 l33_2 l33_3 (by rw [e4]; exact l33_4) (by rw [e5]; exact l33_5) (by rw [e6]; exact l33_6) hl33
    · have h9 := ks (1 + i) (by first | decide | omega)
      rw [show 990 + (1 + i) = 991 + i by omega] at h9
      rw [if_neg (by first | decide | omega)]
      exact h9
noncomputable def mans (w : Nat → Nat → Nat) (L : List Nat) (σ : Nat → Nat) (g st wh : Nat) : Nat := if wh = 0 then mov w L σ g st else if wh = 1 then moe w L σ g st else moh w L σ g st
theorem sr_months (d n : Nat) {t0 : en_H} {w : Nat → Nat → Nat} {L : List Nat} {σ : Nat → Nat} {x y z : Nat} (g0 : ai_HG ah_G t0) (hR : RW t0 w L) (hS : blk t0 0 σ) (hb : sbd σ) (hx : x < 4294967296) (hy : y < 4294967296) (hz : z < 4294967296) : ∃ r, en_u (d + 6) 82 [gx_r 383, .inl x, .inl y, .inl z] t0 n = some r ∧ ∃ v t', r = (some (.inl v), t', n, 0) ∧ ((x ≤ 9999 ∧ (1 ≤ y ∧ y ≤ 100) ∧ z ≤ 2) → v = mans w L σ x y z) ∧ (¬ (x ≤ 9999 ∧ (1 ≤ y ∧ y ≤ 100) ∧ z ≤ 2) → v = 4294967295) := by
  refine en_u_ex (d := d + 5) rfl ?_
  show en_ex _ _ _ _ (0, [(0, gx_r 383), (1, .inl x), (2, .inl y), (3, .inl z)], [], t0, n, 0) _
  refine ex_go (S := (1, [(0, gx_r 383), (1, .inl x), (2, .inl y), (3, .inl z)], [gx_r 383], t0, n, 0)) rfl (fun _ => rfl) rfl ?_
  refine ex_go (S := (2, [(0, gx_r 383), (1, .inl x), (2, .inl y), (3, .inl z)], [.inl 0, gx_r 383], t0, n, 0)) rfl (fun _ => rfl) rfl ?_
  refine gx_put rfl g0 rfl rfl (ai_in_h (by first | decide | omega) (by first | decide | omega) (by first | decide | omega)) rfl (fun t121 g121 k121 e121 => ?_)
  refine ex_go (S := (6, [(0, gx_r 383), (1, .inl x), (2, .inl y), (3, .inl z)], [.inl x], t121, n, 0)) rfl (fun _ => rfl) rfl ?_
  refine ex_go (S := (7, [(0, gx_r 383), (1, .inl x), (2, .inl y), (3, .inl z)], [.inl 0, .inl x], t121, n, 0)) rfl (fun _ => rfl) rfl ?_
  refine ex_go (S := (10, [(0, gx_r 383), (1, .inl x), (2, .inl y), (3, .inl z)], [.inl 9999, .inl 0, .inl x], t121, n, 0)) rfl (fun _ => rfl) rfl ?_
  obtain ⟨_, r22, b23, rfl, b23b, q24⟩ := pz_within (d + 4) n (t0 := t121) (x := x) (lo := 0) (hi := 9999) (by first | decide | omega) (by first | decide | omega) (by first | decide | omega)
  refine ex_stat rfl rfl rfl rfl rfl r22 (Nat.le_refl _) rfl ?_
  show en_ex _ _ _ _ (13, [(0, gx_r 383), (1, .inl x), (2, .inl y), (3, .inl z)], [.inl b23], t121, n, 0) _
  by_cases hc25 : b23 = 0
  · refine gx_1t (c := .eq) rfl (by first | decide | omega) hc25 rfl ?_
    refine ex_go (S := (36, [(0, gx_r 383), (1, .inl x), (2, .inl y), (3, .inl z)], [.inl 4294967295], t121, n, 0)) rfl (fun _ => rfl) rfl ?_
    refine ex_ret (r := (some (.inl 4294967295), t121, n, 0)) rfl (fun _ => rfl) ?_
    exact ⟨_, rfl, _, _, rfl, (fun c9 => by omega), (fun _ => rfl)⟩
  · refine gx_1f (c := .eq) rfl (by first | decide | omega) hc25 rfl ?_
    refine ex_go (S := (17, [(0, gx_r 383), (1, .inl x), (2, .inl y), (3, .inl z)], [.inl y], t121, n, 0)) rfl (fun _ => rfl) rfl ?_
    refine ex_go (S := (18, [(0, gx_r 383), (1, .inl x), (2, .inl y), (3, .inl z)], [.inl 1, .inl y], t121, n, 0)) rfl (fun _ => rfl) rfl ?_
    refine ex_go (S := (20, [(0, gx_r 383), (1, .inl x), (2, .inl y), (3, .inl z)], [.inl 100, .inl 1, .inl y], t121, n, 0)) rfl (fun _ => rfl) rfl ?_
    obtain ⟨_, r26, b27, rfl, b27b, q28⟩ := pz_within (d + 4) n (t0 := t121) (x := y) (lo := 1) (hi := 100) (by first | decide | omega) (by first | decide | omega) (by first | decide | omega)
    refine ex_stat rfl rfl rfl rfl rfl r26 (Nat.le_refl _) rfl ?_
    show en_ex _ _ _ _ (23, [(0, gx_r 383), (1, .inl x), (2, .inl y), (3, .inl z)], [.inl b27], t121, n, 0) _
    by_cases hc29 : b27 = 0
    · refine gx_1t (c := .eq) rfl (by first | decide | omega) hc29 rfl ?_
      refine ex_go (S := (36, [(0, gx_r 383), (1, .inl x), (2, .inl y), (3, .inl z)], [.inl 4294967295], t121, n, 0)) rfl (fun _ => rfl) rfl ?_
      refine ex_ret (r := (some (.inl 4294967295), t121, n, 0)) rfl (fun _ => rfl) ?_
      exact ⟨_, rfl, _, _, rfl, (fun c9 => by omega), (fun _ => rfl)⟩
    · refine gx_1f (c := .eq) rfl (by first | decide | omega) hc29 rfl ?_
      refine ex_go (S := (27, [(0, gx_r 383), (1, .inl x), (2, .inl y), (3, .inl z)], [.inl z], t121, n, 0)) rfl (fun _ => rfl) rfl ?_
      refine ex_go (S := (28, [(0, gx_r 383), (1, .inl x), (2, .inl y), (3, .inl z)], [.inl 0, .inl z], t121, n, 0)) rfl (fun _ => rfl) rfl ?_
      refine ex_go (S := (29, [(0, gx_r 383), (1, .inl x), (2, .inl y), (3, .inl z)], [.inl 2, .inl 0, .inl z], t121, n, 0)) rfl (fun _ => rfl) rfl ?_
      obtain ⟨_, r30, b31, rfl, b31b, q32⟩ := pz_within (d + 4) n (t0 := t121) (x := z) (lo := 0) (hi := 2) (by first | decide | omega) (by first | decide | omega) (by first | decide | omega)
      refine ex_stat rfl rfl rfl rfl rfl r30 (Nat.le_refl _) rfl ?_
      show en_ex _ _ _ _ (32, [(0, gx_r 383), (1, .inl x), (2, .inl y), (3, .inl z)], [.inl b31], t121, n, 0) _
      by_cases hc33 : b31 ≠ 0
      · refine gx_1t (c := .ne) rfl (by first | decide | omega) hc33 rfl ?_
        refine ex_go (S := (38, [(0, gx_r 383), (1, .inl x), (2, .inl y), (3, .inl z)], [gx_r 383], t121, n, 0)) rfl (fun _ => rfl) rfl ?_
        refine ex_go (S := (39, [(0, gx_r 383), (1, .inl x), (2, .inl y), (3, .inl z)], [.inl 0, gx_r 383], t121, n, 0)) rfl (fun _ => rfl) rfl ?_
        refine ex_go (S := (42, [(0, gx_r 383), (1, .inl x), (2, .inl y), (3, .inl z)], [.inl 990, .inl 0, gx_r 383], t121, n, 0)) rfl (fun _ => rfl) rfl ?_
        refine ex_go (S := (44, [(0, gx_r 383), (1, .inl x), (2, .inl y), (3, .inl z)], [.inl 17, .inl 990, .inl 0, gx_r 383], t121, n, 0)) rfl (fun _ => rfl) rfl ?_
        obtain ⟨_, r134, t134, rfl, g134, e134, q134⟩ := pe_copies (d + 4) n (f := 0) (t := 990) (m := 17) g121 (by decide +kernel) (by decide) (by decide) (by decide) (by decide)
        have kb : ∀ j, j < 17 → ai_hv t134 399 (990 + j) = some (.inl (σ j)) := fun j hj => by
          have h9 := hS j hj
          rw [Nat.zero_add] at h9
          rw [q134, if_pos (by first | decide | omega), show 990 + j - 990 + 0 = j by omega]
          exact (e121 399 j (by first | decide | omega)).trans h9
        refine gx_call0 rfl rfl g121 rfl rfl r134 rfl ?_
        have k35 : ai_hv t134 383 0 = some (.inl 0) := (e134 383 0 (by first | decide | omega)).trans k121
        show en_ex _ _ _ _ (47, [(0, gx_r 383), (1, .inl x), (2, .inl y), (3, .inl z)], [], t134, n, 0) _
        refine ex_go (S := (48, [(0, gx_r 383), (1, .inl x), (2, .inl y), (3, .inl z)], [gx_r 383], t134, n, 0)) rfl (fun _ => rfl) rfl ?_
        refine ex_go (S := (49, [(0, gx_r 383), (1, .inl x), (2, .inl y), (3, .inl z)], [.inl x, gx_r 383], t134, n, 0)) rfl (fun _ => rfl) rfl ?_
        refine ex_go (S := (50, [(0, gx_r 383), (1, .inl x), (2, .inl y), (3, .inl z)], [.inr (.inl ((nI x).toInt64.toBitVec.toNat)), gx_r 383], t134, n, 0)) rfl (fun _ => rfl) rfl ?_
        rw [sp_i2l (show x < 2147483648 from by omega)]
        refine gxo_putr (a := 383) (h := .inr (.inl 0)) rfl g134 rfl rfl rfl ⟨_, rfl⟩ rfl (fun t136 g136 k136 e136 => ?_)
        have k37 : ai_hv t136 383 0 = some (.inl 0) := (e136 383 0 (by first | decide | omega)).trans k35
        refine ex_go (S := (54, [(0, gx_r 383), (1, .inl x), (2, .inl y), (3, .inl z)], [.inl 0], t136, n, 0)) rfl (fun _ => rfl) rfl ?_
        refine ex_go (S := (56, [(4, .inl 0), (0, gx_r 383), (1, .inl x), (2, .inl y), (3, .inl z)], [], t136, n, 0)) rfl (fun _ => rfl) rfl ?_
        refine ex_go (S := (57, [(4, .inl 0), (0, gx_r 383), (1, .inl x), (2, .inl y), (3, .inl z)], [.inl 0], t136, n, 0)) rfl (fun _ => rfl) rfl ?_
        refine ex_go (S := (59, [(5, .inl 0), (4, .inl 0), (0, gx_r 383), (1, .inl x), (2, .inl y), (3, .inl z)], [], t136, n, 0)) rfl (fun _ => rfl) rfl ?_
        refine ex_go (S := (60, [(5, .inl 0), (4, .inl 0), (0, gx_r 383), (1, .inl x), (2, .inl y), (3, .inl z)], [.inl 0], t136, n, 0)) rfl (fun _ => rfl) rfl ?_
        refine ex_go (S := (62, [(6, .inl 0), (5, .inl 0), (4, .inl 0), (0, gx_r 383), (1, .inl x), (2, .inl y), (3, .inl z)], [], t136, n, 0)) rfl (fun _ => rfl) rfl ?_
        refine ex_go (S := (63, [(6, .inl 0), (5, .inl 0), (4, .inl 0), (0, gx_r 383), (1, .inl x), (2, .inl y), (3, .inl z)], [.inl 0], t136, n, 0)) rfl (fun _ => rfl) rfl ?_
        refine ex_go (S := (65, [(7, .inl 0), (6, .inl 0), (5, .inl 0), (4, .inl 0), (0, gx_r 383), (1, .inl x), (2, .inl y), (3, .inl z)], [], t136, n, 0)) rfl (fun _ => rfl) rfl ?_
        exact mo_l d n (σ := σ) (g := x) (st := y) (wh := z) (RW_keep hR (fun i hi => (e136 389 i (by first | decide | omega)).trans ((e134 389 i (by first | decide | omega)).trans (e121 389 i (by first | decide | omega)))) (fun c i hc _ => (e136 c i (by first | decide | omega)).trans ((e134 c i (by first | decide | omega)).trans (e121 c i (by first | decide | omega))))) hb (by first | decide | omega) (by first | decide | omega) (by first | decide | omega) (fun t1 v0 g1 _ hv => ⟨_, rfl, _, _, rfl, (fun _ => hv), (fun c9 => absurd ⟨by omega, ⟨by omega, by omega⟩, by omega⟩ c9)⟩) y 0 _ _ (by first | decide | omega) g136 (fun _ _ _ => rfl) k136 (fun j hj => (e136 399 (990 + j) (by first | decide | omega)).trans (kb j hj)) rfl rfl rfl rfl rfl rfl rfl
      · refine gx_1f (c := .ne) rfl (by first | decide | omega) hc33 rfl ?_
        refine ex_go (S := (36, [(0, gx_r 383), (1, .inl x), (2, .inl y), (3, .inl z)], [.inl 4294967295], t121, n, 0)) rfl (fun _ => rfl) rfl ?_
        refine ex_ret (r := (some (.inl 4294967295), t121, n, 0)) rfl (fun _ => rfl) ?_
        exact ⟨_, rfl, _, _, rfl, (fun c9 => by omega), (fun _ => rfl)⟩
theorem SC_stray {t0 t1 : en_H} {w : Nat → Nat → Nat} {σ : Nat → Nat} {g : Nat} (h : SC t0 15 (w 0 2) (w 0 4) σ) (hT : w 0 2 ≤ 6) (hK : w 0 4 ≤ 2) (e : ∀ c i, c ≠ 16 → ai_hv t1 c i = ai_hv t0 c i) (i1 : ∀ i, i < w 0 2 → ai_hv t1 16 i = some (.inl (if i < w 0 2 then spl w g σ i else σ (1 + i)))) : SC t1 15 (w 0 2) (w 0 4) (stray w g σ) := by
  obtain ⟨h1, h2, h3⟩ := h
  refine ⟨(e _ _ (by decide)).trans (by rw [stray_o (Or.inl rfl)]; exact h1), fun i hi => ?_, fun c hc => ?_⟩
  · rw [stray_pl (by first | decide | omega)]
    exact i1 i hi
  · obtain ⟨a1, a2, a3, a4, a5⟩ := h3 c hc
    exact ⟨(e _ _ (by decide)).trans (by rw [stray_o (by first | decide | omega)]; exact a1), (e _ _ (by decide)).trans (by rw [stray_o (by first | decide | omega)]; exact a2), (e _ _ (by decide)).trans (by rw [stray_o (by first | decide | omega)]; exact a3), (e _ _ (by decide)).trans (by rw [stray_o (by first | decide | omega)]; exact a4), fun z => (e _ _ (by decide)).trans (by rw [stray_o (by first | decide | omega)]; exact a5 (by rw [stray_o (by first | decide | omega)] at z; exact z))⟩
theorem sb_l191 (d n : Nat) {tb : en_H} {w : Nat → Nat → Nat} {L : List Nat} {σ : Nat → Nat} {g : Nat} {Q : en_O → Prop} (hC : CW tb 191 w L) (hw : WS w) (hb : sbd σ) (hg : g < 2147483648) (hQ : ∀ t1, ai_HG ah_G t1 → (∀ c i, c ≠ 16 → ai_hv t1 c i = ai_hv tb c i) → (∀ i, i < w 0 2 → ai_hv t1 16 i = some (.inl (if i < w 0 2 then spl w g σ i else σ (1 + i)))) → Q (.inl (some (.inr (.inl (sgn w g (w 0 2)))), t1, n, 0))) : ∀ j k cl t0, k + j = w 0 2 → ai_HG ah_G t0 → (∀ c i, c ≠ 16 → ai_hv t0 c i = ai_hv tb c i) → (∀ i, i < w 0 2 → ai_hv t0 16 i = some (.inl (if i < k then spl w g σ i else σ (1 + i)))) → en_ld cl 0 = some (gx_r 15) → en_ld cl 1 = some (gx_r 191) → en_ld cl 4 = some (.inr (.inl (sgn w g k))) → en_ld cl 6 = some (.inl k) → en_ex none (en_u (d + 2)) (en_code 163) (fun _ => false) (6, cl, [], t0, n, 0) Q := by
  have hT := hw.1.2.2.1
  intro j
  induction j with
  | zero =>
    intro k cl t0 hk g0 e0 i0 l0 l1 l4 l6
    have kT := (e0 194 5 (by decide)).trans hC.1.2.2.2.1
    have hk : k = w 0 2 := by omega
    rw [hk] at i0 l4
    refine gx_ld (i := 6) (d := 0) (v := .inl k) rfl (fun _ => rfl) l6 rfl rfl ?_
    refine gx_ld (i := 1) (d := 2) (v := gx_r 191) rfl (fun _ => rfl) l1 rfl rfl ?_
    refine gxo_ref (a := 191) (c := 194) rfl g0 rfl rfl rfl rfl rfl ?_
    refine gxo_get (a := 194) rfl g0 rfl rfl kT rfl ?_
    refine gx_2t (c := .ge) rfl (by first | decide | omega) (by first | decide | omega) (show w 0 2 ≤ k from by omega) rfl ?_
    refine gx_ld (i := 4) (d := 1) (v := .inr (.inl (sgn w g (w 0 2)))) rfl (fun _ => rfl) l4 rfl rfl ?_
    refine ex_ret (r := (some (.inr (.inl (sgn w g (w 0 2)))), t0, n, 0)) rfl (fun _ => rfl) ?_
    exact hQ _ g0 e0 i0
  | succ j ih =>
    intro k cl t0 hk g0 e0 i0 l0 l1 l4 l6
    have kT := (e0 194 5 (by decide)).trans hC.1.2.2.2.1
    have kp := i0 k (by first | decide | omega)
    rw [if_neg (by first | decide | omega)] at kp
    have hp := hb.1 k (by first | decide | omega)
    have hgk := sgn_lt (w := w) hg k
    have kk := (e0 196 k (by decide)).trans (hC.2.2.2.1 k (by first | decide | omega)).1
    have hkd := (hw.2.2.1 k (by first | decide | omega)).1
    refine gx_ld (i := 6) (d := 0) (v := .inl k) rfl (fun _ => rfl) l6 rfl rfl ?_
    refine gx_ld (i := 1) (d := 2) (v := gx_r 191) rfl (fun _ => rfl) l1 rfl rfl ?_
    refine gxo_ref (a := 191) (c := 194) rfl g0 rfl rfl rfl rfl rfl ?_
    refine gxo_get (a := 194) rfl g0 rfl rfl kT rfl ?_
    refine gx_2f (c := .ge) rfl (by first | decide | omega) (by first | decide | omega) (show ¬ (w 0 2 ≤ k) from by omega) rfl ?_
    refine gx_ld (i := 1) (d := 2) (v := gx_r 191) rfl (fun _ => rfl) l1 rfl rfl ?_
    refine gxo_ref (a := 191) (c := 194) rfl g0 rfl rfl rfl rfl rfl ?_
    refine gxo_ref (a := 194) (c := 196) rfl g0 rfl rfl rfl rfl rfl ?_
    refine gx_ld (i := 6) (d := 0) (v := .inl k) rfl (fun _ => rfl) l6 rfl rfl ?_
    refine gx_ag (v := .inl (w 5 k)) (cb := fun c => Nat.beq c 0) rfl (fun _ => rfl) g0 rfl rfl kk (by first | decide | omega) rfl ?_
    refine ex_go (S := (29, cl, [.inl 2, .inl (w 5 k)], t0, n, 0)) rfl (fun _ => rfl) rfl ?_
    by_cases hc9 : w 5 k = 2
    · refine gx_2f (c := .ne) rfl (by first | decide | omega) (by first | decide | omega) (show ¬ (w 5 k ≠ 2) from by omega) rfl ?_
      refine gx_ld (i := 4) (d := 1) (v := .inr (.inl (sgn w g k))) rfl (fun _ => rfl) l4 rfl rfl ?_
      refine ex_go (S := (37, cl, [.inr (.inl 1103515245), .inr (.inl (sgn w g k))], t0, n, 0)) rfl (fun _ => rfl) rfl ?_
      refine ex_go (S := (38, cl, [.inr (.inl ((lN (sgn w g k) * lN 1103515245).toBitVec.toNat))], t0, n, 0)) rfl (fun _ => rfl) rfl ?_
      rw [sp_lmul (show (sgn w g k) * 1103515245 < 18446744073709551616 from by omega)]
      refine ex_go (S := (41, cl, [.inr (.inl 12345), .inr (.inl ((sgn w g k) * 1103515245))], t0, n, 0)) rfl (fun _ => rfl) rfl ?_
      refine ex_go (S := (42, cl, [.inr (.inl ((lN ((sgn w g k) * 1103515245) + lN 12345).toBitVec.toNat))], t0, n, 0)) rfl (fun _ => rfl) rfl ?_
      rw [sp_ladd (show ((sgn w g k) * 1103515245) + 12345 < 18446744073709551616 from by omega)]
      refine ex_go (S := (45, cl, [.inr (.inl 2147483648), .inr (.inl (((sgn w g k) * 1103515245) + 12345))], t0, n, 0)) rfl (fun _ => rfl) rfl ?_
      refine gx_lremn rfl (by first | decide | omega) (by first | decide | omega) (by first | decide | omega) rfl ?_
      refine gx_sto (i := 4) (d := 1) rfl (fun _ => rfl) rfl rfl (fun l21 hl21 ml21 => ?_)
      have l21_0 : en_ld l21 0 = some (gx_r 15) := ml21 0 _ l0 rfl
      have l21_1 : en_ld l21 1 = some (gx_r 191) := ml21 1 _ l1 rfl
      have l21_6 : en_ld l21 6 = some (.inl k) := ml21 6 _ l6 rfl
      refine gx_ld (i := 4) (d := 1) (v := .inr (.inl ((((sgn w g k) * 1103515245) + 12345) % 2147483648))) rfl (fun _ => rfl) hl21 rfl rfl ?_
      refine ex_go (S := (53, l21, [.inr (.inl 65536), .inr (.inl ((((sgn w g k) * 1103515245) + 12345) % 2147483648))], t0, n, 0)) rfl (fun _ => rfl) rfl ?_
      refine gx_ldivn rfl (by first | decide | omega) (by first | decide | omega) (by first | decide | omega) rfl ?_
      refine ex_go (S := (57, l21, [.inr (.inl 10), .inr (.inl (((((sgn w g k) * 1103515245) + 12345) % 2147483648) / 65536))], t0, n, 0)) rfl (fun _ => rfl) rfl ?_
      refine gx_lremn rfl (by first | decide | omega) (by first | decide | omega) (by first | decide | omega) rfl ?_
      refine ex_go (S := (59, l21, [.inl ((lN ((((((sgn w g k) * 1103515245) + 12345) % 2147483648) / 65536) % 10)).toInt32.toBitVec.toNat)], t0, n, 0)) rfl (fun _ => rfl) rfl ?_
      rw [zk_l2i (show (((((sgn w g k) * 1103515245) + 12345) % 2147483648) / 65536) % 10 < 2147483648 from by omega)]
      refine gx_sto (i := 7) (d := 0) rfl (fun _ => rfl) rfl rfl (fun l22 hl22 ml22 => ?_)
      have l22_0 : en_ld l22 0 = some (gx_r 15) := ml22 0 _ l21_0 rfl
      have l22_1 : en_ld l22 1 = some (gx_r 191) := ml22 1 _ l21_1 rfl
      have l22_6 : en_ld l22 6 = some (.inl k) := ml22 6 _ l21_6 rfl
      have l22_4 : en_ld l22 4 = some (.inr (.inl ((((sgn w g k) * 1103515245) + 12345) % 2147483648))) := ml22 4 _ hl21 rfl
      refine gx_ld (i := 7) (d := 0) (v := .inl ((((((sgn w g k) * 1103515245) + 12345) % 2147483648) / 65536) % 10)) rfl (fun _ => rfl) hl22 rfl rfl ?_
      refine ex_go (S := (64, l22, [.inl 4, .inl ((((((sgn w g k) * 1103515245) + 12345) % 2147483648) / 65536) % 10)], t0, n, 0)) rfl (fun _ => rfl) rfl ?_
      by_cases hge : 4 ≤ (((((sgn w g k) * 1103515245) + 12345) % 2147483648) / 65536) % 10
      · refine gx_2t (c := .ge) rfl (by first | decide | omega) (by first | decide | omega) hge rfl ?_
        refine gx_incS (i := 6) (a := k) (x := 1) rfl (fun _ => rfl) l22_6 (by first | decide | omega) rfl (fun l23 hl23 ml23 => ?_)
        have l23_0 : en_ld l23 0 = some (gx_r 15) := ml23 0 _ l22_0 rfl
        have l23_1 : en_ld l23 1 = some (gx_r 191) := ml23 1 _ l22_1 rfl
        have l23_4 : en_ld l23 4 = some (.inr (.inl ((((sgn w g k) * 1103515245) + 12345) % 2147483648))) := ml23 4 _ l22_4 rfl
        have l23_7 : en_ld l23 7 = some (.inl ((((((sgn w g k) * 1103515245) + 12345) % 2147483648) / 65536) % 10)) := ml23 7 _ hl22 rfl
        refine ex_go (S := (6, l23, [], t0, n, 0)) rfl (fun _ => rfl) rfl ?_
        refine ih (k + 1) _ t0 (by first | decide | omega) g0 (fun c i h => e0 c i h) (fun i hi => ?_) l23_0 l23_1 (by rw [sgn_y hc9]; exact l23_4) hl23
        by_cases e9 : i = k
        · subst e9; rw [if_pos (by first | decide | omega), spl_y hc9, nb_ge (show 4 ≤ dv (dr1 (sgn w g i)) from hge)]; exact kp
        · refine ((i0 i hi).trans ?_)
          by_cases c9 : i < k
          · rw [if_pos c9, if_pos (by first | decide | omega)]
          · rw [if_neg c9, if_neg (by first | decide | omega)]
      · refine gx_2f (c := .ge) rfl (by first | decide | omega) (by first | decide | omega) hge rfl ?_
        refine gx_ld (i := 0) (d := 2) (v := gx_r 15) rfl (fun _ => rfl) l22_0 rfl rfl ?_
        refine gxo_ref (a := 15) (c := 16) rfl g0 rfl rfl rfl rfl rfl ?_
        refine gx_ld (i := 6) (d := 0) (v := .inl k) rfl (fun _ => rfl) l22_6 rfl rfl ?_
        refine gx_ld (i := 1) (d := 2) (v := gx_r 191) rfl (fun _ => rfl) l22_1 rfl rfl ?_
        refine gx_ld (i := 0) (d := 2) (v := gx_r 15) rfl (fun _ => rfl) l22_0 rfl rfl ?_
        refine gxo_ref (a := 15) (c := 16) rfl g0 rfl rfl rfl rfl rfl ?_
        refine gx_ld (i := 6) (d := 0) (v := .inl k) rfl (fun _ => rfl) l22_6 rfl rfl ?_
        refine gx_ag (v := .inl (σ (1 + k))) (cb := fun c => Nat.beq c 0) rfl (fun _ => rfl) g0 rfl rfl kp (by first | decide | omega) rfl ?_
        refine gx_ld (i := 7) (d := 0) (v := .inl ((((((sgn w g k) * 1103515245) + 12345) % 2147483648) / 65536) % 10)) rfl (fun _ => rfl) hl22 rfl rfl ?_
        obtain ⟨_, r24, rfl⟩ := sc_nb191 d n (q := σ (1 + k)) (s := (((((sgn w g k) * 1103515245) + 12345) % 2147483648) / 65536) % 10) g0 ((e0 191 0 (by first | decide | omega)).trans hC.1.1) ((e0 191 1 (by first | decide | omega)).trans hC.1.2.1) hw.1.1 hw.1.2.1 (by first | decide | omega) (by first | decide | omega)
        have hnl := nb_lt (O := w 0 0) (D := w 0 1) (p := σ (1 + k)) (s := (((((sgn w g k) * 1103515245) + 12345) % 2147483648) / 65536) % 10) (by first | decide | omega) hw.1.1 hw.1.2.1
        refine gx_callo (a := 191) rfl rfl g0 rfl rfl rfl r24 rfl ?_
        show en_ex _ _ _ _ (86, l22, [.inl (nb (w 0 0) (w 0 1) (σ (1 + k)) ((((((sgn w g k) * 1103515245) + 12345) % 2147483648) / 65536) % 10)), .inl k, gx_r 16], t0, n, 0) _
        refine gx_ap rfl (fun _ => rfl) g0 rfl rfl rfl (show k < 6 from by omega) (gx_run1 (show k < 6 from by omega)) (ai_in_h (by first | decide | omega) (by first | decide | omega) (by first | decide | omega)) rfl (fun t125 g125 k125 e125 => ?_)
        have k26 : ai_hv t125 194 5 = some (.inl (w 0 2)) := (e125 194 5 (by first | decide | omega)).trans kT
        have k27 : ai_hv t125 196 k = some (.inl (w 5 k)) := (e125 196 k (by first | decide | omega)).trans kk
        refine gx_incS (i := 6) (a := k) (x := 1) rfl (fun _ => rfl) l22_6 (by first | decide | omega) rfl (fun l28 hl28 ml28 => ?_)
        have l28_0 : en_ld l28 0 = some (gx_r 15) := ml28 0 _ l22_0 rfl
        have l28_1 : en_ld l28 1 = some (gx_r 191) := ml28 1 _ l22_1 rfl
        have l28_4 : en_ld l28 4 = some (.inr (.inl ((((sgn w g k) * 1103515245) + 12345) % 2147483648))) := ml28 4 _ l22_4 rfl
        have l28_7 : en_ld l28 7 = some (.inl ((((((sgn w g k) * 1103515245) + 12345) % 2147483648) / 65536) % 10)) := ml28 7 _ hl22 rfl
        refine ex_go (S := (6, l28, [], t125, n, 0)) rfl (fun _ => rfl) rfl ?_
        refine ih (k + 1) _ t125 (by first | decide | omega) g125 (fun c i h => (e125 c i (by first | decide | omega)).trans (e0 c i h)) (fun i hi => ?_) l28_0 l28_1 (by rw [sgn_y hc9]; exact l28_4) hl28
        by_cases e9 : i = k
        · subst e9; rw [if_pos (by first | decide | omega), spl_y hc9]; exact k125
        · refine (e125 16 i (by first | decide | omega)).trans ((i0 i hi).trans ?_)
          by_cases c9 : i < k
          · rw [if_pos c9, if_pos (by first | decide | omega)]
          · rw [if_neg c9, if_neg (by first | decide | omega)]
    · refine gx_2t (c := .ne) rfl (by first | decide | omega) (by first | decide | omega) (show w 5 k ≠ 2 from by omega) rfl ?_
      refine gx_incS (i := 6) (a := k) (x := 1) rfl (fun _ => rfl) l6 (by first | decide | omega) rfl (fun l29 hl29 ml29 => ?_)
      have l29_0 : en_ld l29 0 = some (gx_r 15) := ml29 0 _ l0 rfl
      have l29_1 : en_ld l29 1 = some (gx_r 191) := ml29 1 _ l1 rfl
      have l29_4 : en_ld l29 4 = some (.inr (.inl (sgn w g k))) := ml29 4 _ l4 rfl
      refine ex_go (S := (6, l29, [], t0, n, 0)) rfl (fun _ => rfl) rfl ?_
      refine ih (k + 1) _ t0 (by first | decide | omega) g0 (fun c i h => e0 c i h) (fun i hi => ?_) l29_0 l29_1 (by rw [sgn_n hc9]; exact l29_4) hl29
      by_cases e9 : i = k
      · subst e9; rw [if_pos (by first | decide | omega), spl_n hc9]; exact kp
      · refine ((i0 i hi).trans ?_)
        by_cases c9 : i < k
        · rw [if_pos c9, if_pos (by first | decide | omega)]
        · rw [if_neg c9, if_neg (by first | decide | omega)]
theorem sc_stray191 (d n : Nat) {t0 : en_H} {w : Nat → Nat → Nat} {L : List Nat} {σ : Nat → Nat} {g : Nat} (g0 : ai_HG ah_G t0) (hC : CW t0 191 w L) (hw : WS w) (hb : sbd σ) (hS : SC t0 15 (w 0 2) (w 0 4) σ) (hg : g < 2147483648) : ∃ r, en_u (d + 3) 163 [gx_r 15, gx_r 191, .inr (.inl g)] t0 n = some r ∧ ∃ t', r = (some (.inr (.inl (sgn w g (w 0 2)))), t', n, 0) ∧ ai_HG ah_G t' ∧ (∀ c i, c ≠ 16 → ai_hv t' c i = ai_hv t0 c i) ∧ SC t' 15 (w 0 2) (w 0 4) (stray w g σ) := by
  refine en_u_ex (d := d + 2) rfl ?_
  show en_ex _ _ _ _ (0, [(0, gx_r 15), (1, gx_r 191), (2, .inr (.inl g))], [], t0, n, 0) _
  refine ex_go (S := (1, [(0, gx_r 15), (1, gx_r 191), (2, .inr (.inl g))], [.inr (.inl g)], t0, n, 0)) rfl (fun _ => rfl) rfl ?_
  refine ex_go (S := (3, [(4, .inr (.inl g)), (0, gx_r 15), (1, gx_r 191), (2, .inr (.inl g))], [], t0, n, 0)) rfl (fun _ => rfl) rfl ?_
  refine ex_go (S := (4, [(4, .inr (.inl g)), (0, gx_r 15), (1, gx_r 191), (2, .inr (.inl g))], [.inl 0], t0, n, 0)) rfl (fun _ => rfl) rfl ?_
  refine ex_go (S := (6, [(6, .inl 0), (4, .inr (.inl g)), (0, gx_r 15), (1, gx_r 191), (2, .inr (.inl g))], [], t0, n, 0)) rfl (fun _ => rfl) rfl ?_
  exact sb_l191 d n hC hw hb hg (fun t1 g1 e1 i1 => ⟨_, rfl, _, rfl, g1, e1, SC_stray hS hw.1.2.2.1 hw.1.2.2.2.2.1 e1 i1⟩) (w 0 2) 0 _ _ (by first | decide | omega) g0 (fun _ _ _ => rfl) (fun i hi => by rw [if_neg (Nat.not_lt_zero i)]; exact hS.2.1 i hi) rfl rfl rfl rfl
theorem ih_l191 (d n : Nat) {t0 : en_H} {w : Nat → Nat → Nat} {L : List Nat} {σ : Nat → Nat} {p0 : Nat} {Q : en_O → Prop} (g0 : ai_HG ah_G t0) (hC : CW t0 191 w L) (hw : WS w) (hS : SC t0 15 (w 0 2) (w 0 4) σ) (hb : sbd σ) (hp : p0 < 64) (hQ : Q (.inl (some (.inl (b2n (visn w σ p0 (w 0 2)))), t0, n, 0))) : ∀ j k cl, k + j = w 0 2 → visn w σ p0 k = false → en_ld cl 0 = some (gx_r 15) → en_ld cl 1 = some (gx_r 191) → en_ld cl 2 = some (.inl p0) → en_ld cl 3 = some (.inl k) → en_ex none (en_u d) (en_code 221) (fun _ => false) (2, cl, [], t0, n, 0) Q := by
  have hT := hw.1.2.2.1
  have kT := hC.1.2.2.2.1
  intro j
  induction j with
  | zero =>
    intro k cl hk hv l0 l1 l2 l3
    have hk : k = w 0 2 := by omega
    rw [hk] at hv
    rw [hv] at hQ
    refine gx_ld (i := 3) (d := 0) (v := .inl k) rfl (fun _ => rfl) l3 rfl rfl ?_
    refine gx_ld (i := 1) (d := 2) (v := gx_r 191) rfl (fun _ => rfl) l1 rfl rfl ?_
    refine gxo_ref (a := 191) (c := 194) rfl g0 rfl rfl rfl rfl rfl ?_
    refine gxo_get (a := 194) rfl g0 rfl rfl kT rfl ?_
    refine gx_2t (c := .ge) rfl (by first | decide | omega) (by first | decide | omega) (show w 0 2 ≤ k from by omega) rfl ?_
    refine ex_go (S := (54, cl, [.inl 0], t0, n, 0)) rfl (fun _ => rfl) rfl ?_
    refine ex_ret (r := (some (.inl 0), t0, n, 0)) rfl (fun _ => rfl) ?_
    exact hQ
  | succ j ih =>
    intro k cl hk hv l0 l1 l2 l3
    have kp := hS.2.1 k (by first | decide | omega)
    have hpl := hb.1 k (by first | decide | omega)
    have kk := (hC.2.2.2.1 k (by first | decide | omega)).1
    have hkd := (hw.2.2.1 k (by first | decide | omega)).1
    refine gx_ld (i := 3) (d := 0) (v := .inl k) rfl (fun _ => rfl) l3 rfl rfl ?_
    refine gx_ld (i := 1) (d := 2) (v := gx_r 191) rfl (fun _ => rfl) l1 rfl rfl ?_
    refine gxo_ref (a := 191) (c := 194) rfl g0 rfl rfl rfl rfl rfl ?_
    refine gxo_get (a := 194) rfl g0 rfl rfl kT rfl ?_
    refine gx_2f (c := .ge) rfl (by first | decide | omega) (by first | decide | omega) (show ¬ (w 0 2 ≤ k) from by omega) rfl ?_
    refine gx_ld (i := 1) (d := 2) (v := gx_r 191) rfl (fun _ => rfl) l1 rfl rfl ?_
    refine gxo_ref (a := 191) (c := 194) rfl g0 rfl rfl rfl rfl rfl ?_
    refine gxo_ref (a := 194) (c := 196) rfl g0 rfl rfl rfl rfl rfl ?_
    refine gx_ld (i := 3) (d := 0) (v := .inl k) rfl (fun _ => rfl) l3 rfl rfl ?_
    refine gx_ag (v := .inl (w 5 k)) (cb := fun c => Nat.beq c 0) rfl (fun _ => rfl) g0 rfl rfl kk (by first | decide | omega) rfl ?_
    refine gx_sto (i := 4) (d := 0) rfl (fun _ => rfl) rfl rfl (fun l21 hl21 ml21 => ?_)
    have l21_0 : en_ld l21 0 = some (gx_r 15) := ml21 0 _ l0 rfl
    have l21_1 : en_ld l21 1 = some (gx_r 191) := ml21 1 _ l1 rfl
    have l21_2 : en_ld l21 2 = some (.inl p0) := ml21 2 _ l2 rfl
    have l21_3 : en_ld l21 3 = some (.inl k) := ml21 3 _ l3 rfl
    refine gx_ld (i := 4) (d := 0) (v := .inl (w 5 k)) rfl (fun _ => rfl) hl21 rfl rfl ?_
    by_cases hc22 : w 5 k = 0
    · refine gx_1t (c := .eq) rfl (by first | decide | omega) hc22 rfl ?_
      refine gx_ld (i := 0) (d := 2) (v := gx_r 15) rfl (fun _ => rfl) l21_0 rfl rfl ?_
      refine gxo_ref (a := 15) (c := 16) rfl g0 rfl rfl rfl rfl rfl ?_
      refine gx_ld (i := 3) (d := 0) (v := .inl k) rfl (fun _ => rfl) l21_3 rfl rfl ?_
      refine gx_ag (v := .inl (σ (1 + k))) (cb := fun c => Nat.beq c 0) rfl (fun _ => rfl) g0 rfl rfl kp (by first | decide | omega) rfl ?_
      refine gx_ld (i := 2) (d := 0) (v := .inl p0) rfl (fun _ => rfl) l21_2 rfl rfl ?_
      by_cases hc23 : σ (1 + k) ≠ p0
      · refine gx_2t (c := .ne) rfl (by first | decide | omega) (by first | decide | omega) hc23 rfl ?_
        refine gx_incS (i := 3) (a := k) (x := 1) rfl (fun _ => rfl) l21_3 (by first | decide | omega) rfl (fun l24 hl24 ml24 => ?_)
        have l24_0 : en_ld l24 0 = some (gx_r 15) := ml24 0 _ l21_0 rfl
        have l24_1 : en_ld l24 1 = some (gx_r 191) := ml24 1 _ l21_1 rfl
        have l24_2 : en_ld l24 2 = some (.inl p0) := ml24 2 _ l21_2 rfl
        have l24_4 : en_ld l24 4 = some (.inl (w 5 k)) := ml24 4 _ hl21 rfl
        refine ex_go (S := (2, l24, [], t0, n, 0)) rfl (fun _ => rfl) rfl ?_
        exact ih (k + 1) _ (by first | decide | omega) (visn_n hv (by first | decide | omega)) l24_0 l24_1 l24_2 hl24
      · refine gx_2f (c := .ne) rfl (by first | decide | omega) (by first | decide | omega) hc23 rfl ?_
        refine ex_go (S := (46, l21, [.inl 1], t0, n, 0)) rfl (fun _ => rfl) rfl ?_
        refine ex_ret (r := (some (.inl 1), t0, n, 0)) rfl (fun _ => rfl) ?_
        have h8 := visn_mono (visn_y (w := w) (σ := σ) (p := p0) (k := k) (Or.inr ⟨by omega, by omega⟩)) j
        rw [show k + 1 + j = w 0 2 by omega] at h8
        rw [h8] at hQ
        exact hQ
    · refine gx_1f (c := .eq) rfl (by first | decide | omega) hc22 rfl ?_
      refine gx_ld (i := 4) (d := 0) (v := .inl (w 5 k)) rfl (fun _ => rfl) hl21 rfl rfl ?_
      refine ex_go (S := (32, l21, [.inl 1, .inl (w 5 k)], t0, n, 0)) rfl (fun _ => rfl) rfl ?_
      by_cases hc25 : w 5 k ≠ 1
      · refine gx_2t (c := .ne) rfl (by first | decide | omega) (by first | decide | omega) hc25 rfl ?_
        refine gx_incS (i := 3) (a := k) (x := 1) rfl (fun _ => rfl) l21_3 (by first | decide | omega) rfl (fun l26 hl26 ml26 => ?_)
        have l26_0 : en_ld l26 0 = some (gx_r 15) := ml26 0 _ l21_0 rfl
        have l26_1 : en_ld l26 1 = some (gx_r 191) := ml26 1 _ l21_1 rfl
        have l26_2 : en_ld l26 2 = some (.inl p0) := ml26 2 _ l21_2 rfl
        have l26_4 : en_ld l26 4 = some (.inl (w 5 k)) := ml26 4 _ hl21 rfl
        refine ex_go (S := (2, l26, [], t0, n, 0)) rfl (fun _ => rfl) rfl ?_
        exact ih (k + 1) _ (by first | decide | omega) (visn_n hv (by first | decide | omega)) l26_0 l26_1 l26_2 hl26
      · refine gx_2f (c := .ne) rfl (by first | decide | omega) (by first | decide | omega) hc25 rfl ?_
        refine gx_ld (i := 0) (d := 2) (v := gx_r 15) rfl (fun _ => rfl) l21_0 rfl rfl ?_
        refine gxo_ref (a := 15) (c := 16) rfl g0 rfl rfl rfl rfl rfl ?_
        refine gx_ld (i := 3) (d := 0) (v := .inl k) rfl (fun _ => rfl) l21_3 rfl rfl ?_
        refine gx_ag (v := .inl (σ (1 + k))) (cb := fun c => Nat.beq c 0) rfl (fun _ => rfl) g0 rfl rfl kp (by first | decide | omega) rfl ?_
        refine gx_ld (i := 2) (d := 0) (v := .inl p0) rfl (fun _ => rfl) l21_2 rfl rfl ?_
        by_cases hc27 : σ (1 + k) ≠ p0
        · refine gx_2t (c := .ne) rfl (by first | decide | omega) (by first | decide | omega) hc27 rfl ?_
          refine gx_incS (i := 3) (a := k) (x := 1) rfl (fun _ => rfl) l21_3 (by first | decide | omega) rfl (fun l28 hl28 ml28 => ?_)
          have l28_0 : en_ld l28 0 = some (gx_r 15) := ml28 0 _ l21_0 rfl
          have l28_1 : en_ld l28 1 = some (gx_r 191) := ml28 1 _ l21_1 rfl
          have l28_2 : en_ld l28 2 = some (.inl p0) := ml28 2 _ l21_2 rfl
          have l28_4 : en_ld l28 4 = some (.inl (w 5 k)) := ml28 4 _ hl21 rfl
          refine ex_go (S := (2, l28, [], t0, n, 0)) rfl (fun _ => rfl) rfl ?_
          exact ih (k + 1) _ (by first | decide | omega) (visn_n hv (by first | decide | omega)) l28_0 l28_1 l28_2 hl28
        · refine gx_2f (c := .ne) rfl (by first | decide | omega) (by first | decide | omega) hc27 rfl ?_
          refine ex_go (S := (46, l21, [.inl 1], t0, n, 0)) rfl (fun _ => rfl) rfl ?_
          refine ex_ret (r := (some (.inl 1), t0, n, 0)) rfl (fun _ => rfl) ?_
          have h8 := visn_mono (visn_y (w := w) (σ := σ) (p := p0) (k := k) (Or.inr ⟨by omega, by omega⟩)) j
          rw [show k + 1 + j = w 0 2 by omega] at h8
          rw [h8] at hQ
          exact hQ
theorem sc_inhab191 (d n : Nat) {t0 : en_H} {w : Nat → Nat → Nat} {L : List Nat} {σ : Nat → Nat} {p0 : Nat} (g0 : ai_HG ah_G t0) (hC : CW t0 191 w L) (hw : WS w) (hS : SC t0 15 (w 0 2) (w 0 4) σ) (hb : sbd σ) (hp : p0 < 64) : ∃ r, en_u (d + 1) 221 [gx_r 15, gx_r 191, .inl p0] t0 n = some r ∧ r = (some (.inl (b2n (visn w σ p0 (w 0 2)))), t0, n, 0) := by
  refine en_u_ex rfl ?_
  show en_ex _ _ _ _ (0, [(0, gx_r 15), (1, gx_r 191), (2, .inl p0)], [], t0, n, 0) _
  refine ex_go (S := (1, [(0, gx_r 15), (1, gx_r 191), (2, .inl p0)], [.inl 0], t0, n, 0)) rfl (fun _ => rfl) rfl ?_
  refine ex_go (S := (2, [(3, .inl 0), (0, gx_r 15), (1, gx_r 191), (2, .inl p0)], [], t0, n, 0)) rfl (fun _ => rfl) rfl ?_
  exact ih_l191 d n g0 hC hw hS hb hp ⟨_, rfl, rfl⟩ (w 0 2) 0 _ (by first | decide | omega) rfl rfl rfl rfl rfl
theorem bv_l191 (d n : Nat) {t0 : en_H} {w : Nat → Nat → Nat} {L : List Nat} {σ : Nat → Nat} {Q : en_O → Prop} (g0 : ai_HG ah_G t0) (hC : CW t0 191 w L) (hw : WS w) (hS : SC t0 15 (w 0 2) (w 0 4) σ) (hb : sbd σ) (hQ : Q (.inl (some (.inl (bearn w σ (w 0 2))), t0, n, 0))) : ∀ j k cl, k + j = w 0 2 → en_ld cl 0 = some (gx_r 15) → en_ld cl 1 = some (gx_r 191) → en_ld cl 2 = some (.inl (bearn w σ k)) → en_ld cl 3 = some (.inl k) → en_ex none (en_u (d + 1)) (en_code 165) (fun _ => false) (4, cl, [], t0, n, 0) Q := by
  have hT := hw.1.2.2.1
  have kT := hC.1.2.2.2.1
  intro j
  induction j with
  | zero =>
    intro k cl hk l0 l1 l2 l3
    have hk : k = w 0 2 := by omega
    rw [hk] at l2
    refine gx_ld (i := 3) (d := 0) (v := .inl k) rfl (fun _ => rfl) l3 rfl rfl ?_
    refine gx_ld (i := 1) (d := 2) (v := gx_r 191) rfl (fun _ => rfl) l1 rfl rfl ?_
    refine gxo_ref (a := 191) (c := 194) rfl g0 rfl rfl rfl rfl rfl ?_
    refine gxo_get (a := 194) rfl g0 rfl rfl kT rfl ?_
    refine gx_2t (c := .ge) rfl (by first | decide | omega) (by first | decide | omega) (show w 0 2 ≤ k from by omega) rfl ?_
    refine gx_ld (i := 2) (d := 0) (v := .inl (bearn w σ (w 0 2))) rfl (fun _ => rfl) l2 rfl rfl ?_
    refine ex_ret (r := (some (.inl (bearn w σ (w 0 2))), t0, n, 0)) rfl (fun _ => rfl) ?_
    exact hQ
  | succ j ih =>
    intro k cl hk l0 l1 l2 l3
    have kp := hS.2.1 k (by first | decide | omega)
    have hpl := hb.1 k (by first | decide | omega)
    have hbk := bearn_le (w := w) (σ := σ) k
    have kk := (hC.2.2.2.1 k (by first | decide | omega)).1
    have hkd := (hw.2.2.1 k (by first | decide | omega)).1
    refine gx_ld (i := 3) (d := 0) (v := .inl k) rfl (fun _ => rfl) l3 rfl rfl ?_
    refine gx_ld (i := 1) (d := 2) (v := gx_r 191) rfl (fun _ => rfl) l1 rfl rfl ?_
    refine gxo_ref (a := 191) (c := 194) rfl g0 rfl rfl rfl rfl rfl ?_
    refine gxo_get (a := 194) rfl g0 rfl rfl kT rfl ?_
    refine gx_2f (c := .ge) rfl (by first | decide | omega) (by first | decide | omega) (show ¬ (w 0 2 ≤ k) from by omega) rfl ?_
    refine gx_ld (i := 1) (d := 2) (v := gx_r 191) rfl (fun _ => rfl) l1 rfl rfl ?_
    refine gxo_ref (a := 191) (c := 194) rfl g0 rfl rfl rfl rfl rfl ?_
    refine gxo_ref (a := 194) (c := 196) rfl g0 rfl rfl rfl rfl rfl ?_
    refine gx_ld (i := 3) (d := 0) (v := .inl k) rfl (fun _ => rfl) l3 rfl rfl ?_
    refine gx_ag (v := .inl (w 5 k)) (cb := fun c => Nat.beq c 0) rfl (fun _ => rfl) g0 rfl rfl kk (by first | decide | omega) rfl ?_
    refine ex_go (S := (25, cl, [.inl 2, .inl (w 5 k)], t0, n, 0)) rfl (fun _ => rfl) rfl ?_
    by_cases hc9 : w 5 k = 2
    · refine gx_2f (c := .ne) rfl (by first | decide | omega) (by first | decide | omega) (show ¬ (w 5 k ≠ 2) from by omega) rfl ?_
      refine gx_ld (i := 0) (d := 2) (v := gx_r 15) rfl (fun _ => rfl) l0 rfl rfl ?_
      refine gx_ld (i := 1) (d := 2) (v := gx_r 191) rfl (fun _ => rfl) l1 rfl rfl ?_
      refine gx_ld (i := 0) (d := 2) (v := gx_r 15) rfl (fun _ => rfl) l0 rfl rfl ?_
      refine gxo_ref (a := 15) (c := 16) rfl g0 rfl rfl rfl rfl rfl ?_
      refine gx_ld (i := 3) (d := 0) (v := .inl k) rfl (fun _ => rfl) l3 rfl rfl ?_
      refine gx_ag (v := .inl (σ (1 + k))) (cb := fun c => Nat.beq c 0) rfl (fun _ => rfl) g0 rfl rfl kp (by first | decide | omega) rfl ?_
      obtain ⟨_, r21, rfl⟩ := sc_inhab191 d n (p0 := σ (1 + k)) g0 hC hw hS hb (by first | decide | omega)
      refine gx_callo (a := 15) rfl rfl g0 rfl rfl rfl r21 rfl ?_
      show en_ex _ _ _ _ (39, cl, [.inl (b2n (visn w σ (σ (1 + k)) (w 0 2)))], t0, n, 0) _
      cases hv9 : visn w σ (σ (1 + k)) (w 0 2)
      · show en_ex _ _ _ _ (39, cl, [.inl 0], t0, n, 0) _
        refine ex_go (S := (45, cl, [], t0, n, 0)) rfl (fun _ => rfl) rfl ?_
        refine gx_incS (i := 3) (a := k) (x := 1) rfl (fun _ => rfl) l3 (by first | decide | omega) rfl (fun l22 hl22 ml22 => ?_)
        have l22_0 : en_ld l22 0 = some (gx_r 15) := ml22 0 _ l0 rfl
        have l22_1 : en_ld l22 1 = some (gx_r 191) := ml22 1 _ l1 rfl
        have l22_2 : en_ld l22 2 = some (.inl (bearn w σ k)) := ml22 2 _ l2 rfl
        refine ex_go (S := (4, l22, [], t0, n, 0)) rfl (fun _ => rfl) rfl ?_
        exact ih (k + 1) _ (by first | decide | omega) l22_0 l22_1 (by rw [bearn_y hc9, hv9]; exact l22_2) hl22
      · show en_ex _ _ _ _ (39, cl, [.inl 1], t0, n, 0) _
        refine ex_go (S := (42, cl, [], t0, n, 0)) rfl (fun _ => rfl) rfl ?_
        refine gx_incS (i := 2) (a := bearn w σ k) (x := 1) rfl (fun _ => rfl) l2 (by first | decide | omega) rfl (fun l23 hl23 ml23 => ?_)
        have l23_0 : en_ld l23 0 = some (gx_r 15) := ml23 0 _ l0 rfl
        have l23_1 : en_ld l23 1 = some (gx_r 191) := ml23 1 _ l1 rfl
        have l23_3 : en_ld l23 3 = some (.inl k) := ml23 3 _ l3 rfl
        refine gx_incS (i := 3) (a := k) (x := 1) rfl (fun _ => rfl) l23_3 (by first | decide | omega) rfl (fun l24 hl24 ml24 => ?_)
        have l24_0 : en_ld l24 0 = some (gx_r 15) := ml24 0 _ l23_0 rfl
        have l24_1 : en_ld l24 1 = some (gx_r 191) := ml24 1 _ l23_1 rfl
        have l24_2 : en_ld l24 2 = some (.inl ((bearn w σ k) + 1)) := ml24 2 _ hl23 rfl
        refine ex_go (S := (4, l24, [], t0, n, 0)) rfl (fun _ => rfl) rfl ?_
        exact ih (k + 1) _ (by first | decide | omega) l24_0 l24_1 (by rw [bearn_y hc9, hv9]; exact l24_2) hl24
    · refine gx_2t (c := .ne) rfl (by first | decide | omega) (by first | decide | omega) (show w 5 k ≠ 2 from by omega) rfl ?_
      refine gx_incS (i := 3) (a := k) (x := 1) rfl (fun _ => rfl) l3 (by first | decide | omega) rfl (fun l25 hl25 ml25 => ?_)
      have l25_0 : en_ld l25 0 = some (gx_r 15) := ml25 0 _ l0 rfl
      have l25_1 : en_ld l25 1 = some (gx_r 191) := ml25 1 _ l1 rfl
      have l25_2 : en_ld l25 2 = some (.inl (bearn w σ k)) := ml25 2 _ l2 rfl
      refine ex_go (S := (4, l25, [], t0, n, 0)) rfl (fun _ => rfl) rfl ?_
      exact ih (k + 1) _ (by first | decide | omega) l25_0 l25_1 (by rw [bearn_n hc9]; exact l25_2) hl25
theorem sc_bears191 (d n : Nat) {t0 : en_H} {w : Nat → Nat → Nat} {L : List Nat} {σ : Nat → Nat} (g0 : ai_HG ah_G t0) (hC : CW t0 191 w L) (hw : WS w) (hS : SC t0 15 (w 0 2) (w 0 4) σ) (hb : sbd σ) : ∃ r, en_u (d + 2) 165 [gx_r 15, gx_r 191] t0 n = some r ∧ r = (some (.inl (bearn w σ (w 0 2))), t0, n, 0) := by
  refine en_u_ex (d := d + 1) rfl ?_
  show en_ex _ _ _ _ (0, [(0, gx_r 15), (1, gx_r 191)], [], t0, n, 0) _
  refine ex_go (S := (1, [(0, gx_r 15), (1, gx_r 191)], [.inl 0], t0, n, 0)) rfl (fun _ => rfl) rfl ?_
  refine ex_go (S := (2, [(2, .inl 0), (0, gx_r 15), (1, gx_r 191)], [], t0, n, 0)) rfl (fun _ => rfl) rfl ?_
  refine ex_go (S := (3, [(2, .inl 0), (0, gx_r 15), (1, gx_r 191)], [.inl 0], t0, n, 0)) rfl (fun _ => rfl) rfl ?_
  refine ex_go (S := (4, [(3, .inl 0), (2, .inl 0), (0, gx_r 15), (1, gx_r 191)], [], t0, n, 0)) rfl (fun _ => rfl) rfl ?_
  exact bv_l191 d n g0 hC hw hS hb ⟨_, rfl, rfl⟩ (w 0 2) 0 _ (by first | decide | omega) rfl rfl rfl rfl
theorem hh_l191 (d n : Nat) {t0 : en_H} {w : Nat → Nat → Nat} {L : List Nat} {σ : Nat → Nat} {Q : en_O → Prop} (g0 : ai_HG ah_G t0) (hC : CW t0 191 w L) (hw : WS w) (hS : SC t0 15 (w 0 2) (w 0 4) σ) (hb : sbd σ) (hQ : Q (.inl (some (.inl (b2n (hun σ (w 0 4)))), t0, n, 0))) : ∀ j k cl, k + j = w 0 4 → hun σ k = false → en_ld cl 0 = some (gx_r 15) → en_ld cl 1 = some (gx_r 191) → en_ld cl 2 = some (.inl k) → en_ex none (en_u d) (en_code 166) (fun _ => false) (2, cl, [], t0, n, 0) Q := by
  have hK := hw.1.2.2.2.2.1
  have kK := hC.1.2.2.2.2.2
  intro j
  induction j with
  | zero =>
    intro k cl hk hv l0 l1 l2
    have hk : k = w 0 4 := by omega
    rw [hk] at hv
    rw [hv] at hQ
    refine gx_ld (i := 2) (d := 0) (v := .inl k) rfl (fun _ => rfl) l2 rfl rfl ?_
    refine gx_ld (i := 1) (d := 2) (v := gx_r 191) rfl (fun _ => rfl) l1 rfl rfl ?_
    refine gxo_ref (a := 191) (c := 206) rfl g0 rfl rfl rfl rfl rfl ?_
    refine gxo_get (a := 206) rfl g0 rfl rfl kK rfl ?_
    refine gx_2t (c := .ge) rfl (by first | decide | omega) (by first | decide | omega) (show w 0 4 ≤ k from by omega) rfl ?_
    refine ex_go (S := (31, cl, [.inl 0], t0, n, 0)) rfl (fun _ => rfl) rfl ?_
    refine ex_ret (r := (some (.inl 0), t0, n, 0)) rfl (fun _ => rfl) ?_
    exact hQ
  | succ j ih =>
    intro k cl hk hv l0 l1 l2
    have kp := (hS.2.2 k (by first | decide | omega)).1
    have hbi : σ (7 + k) ≤ 19998 := by
      rcases (show k = 0 ∨ k = 1 by omega) with rfl | rfl
      · exact hb.2.1.1
      · exact hb.2.1.2
    refine gx_ld (i := 2) (d := 0) (v := .inl k) rfl (fun _ => rfl) l2 rfl rfl ?_
    refine gx_ld (i := 1) (d := 2) (v := gx_r 191) rfl (fun _ => rfl) l1 rfl rfl ?_
    refine gxo_ref (a := 191) (c := 206) rfl g0 rfl rfl rfl rfl rfl ?_
    refine gxo_get (a := 206) rfl g0 rfl rfl kK rfl ?_
    refine gx_2f (c := .ge) rfl (by first | decide | omega) (by first | decide | omega) (show ¬ (w 0 4 ≤ k) from by omega) rfl ?_
    refine gx_ld (i := 0) (d := 2) (v := gx_r 15) rfl (fun _ => rfl) l0 rfl rfl ?_
    refine gxo_ref (a := 15) (c := 17) rfl g0 rfl rfl rfl rfl rfl ?_
    refine gx_ld (i := 2) (d := 0) (v := .inl k) rfl (fun _ => rfl) l2 rfl rfl ?_
    refine gx_ag (v := .inl (σ (7 + k))) (cb := fun c => Nat.beq c 0) rfl (fun _ => rfl) g0 rfl rfl kp (by first | decide | omega) rfl ?_
    by_cases hc21 : σ (7 + k) ≠ 0
    · refine gx_1t (c := .ne) rfl (by first | decide | omega) hc21 rfl ?_
      refine gx_incS (i := 2) (a := k) (x := 1) rfl (fun _ => rfl) l2 (by first | decide | omega) rfl (fun l22 hl22 ml22 => ?_)
      have l22_0 : en_ld l22 0 = some (gx_r 15) := ml22 0 _ l0 rfl
      have l22_1 : en_ld l22 1 = some (gx_r 191) := ml22 1 _ l1 rfl
      refine ex_go (S := (2, l22, [], t0, n, 0)) rfl (fun _ => rfl) rfl ?_
      exact ih (k + 1) _ (by first | decide | omega) (hun_n hv (by first | decide | omega)) l22_0 l22_1 hl22
    · refine gx_1f (c := .ne) rfl (by first | decide | omega) hc21 rfl ?_
      refine ex_go (S := (23, cl, [.inl 1], t0, n, 0)) rfl (fun _ => rfl) rfl ?_
      refine ex_ret (r := (some (.inl 1), t0, n, 0)) rfl (fun _ => rfl) ?_
      have h8 := hun_mono (hun_y (σ := σ) (k := k) (Or.inr (by first | decide | omega))) j
      rw [show k + 1 + j = w 0 4 by omega] at h8
      rw [h8] at hQ
      exact hQ
theorem sc_hungry191 (d n : Nat) {t0 : en_H} {w : Nat → Nat → Nat} {L : List Nat} {σ : Nat → Nat} (g0 : ai_HG ah_G t0) (hC : CW t0 191 w L) (hw : WS w) (hS : SC t0 15 (w 0 2) (w 0 4) σ) (hb : sbd σ) : ∃ r, en_u (d + 1) 166 [gx_r 15, gx_r 191] t0 n = some r ∧ r = (some (.inl (b2n (hun σ (w 0 4)))), t0, n, 0) := by
  refine en_u_ex rfl ?_
  show en_ex _ _ _ _ (0, [(0, gx_r 15), (1, gx_r 191)], [], t0, n, 0) _
  refine ex_go (S := (1, [(0, gx_r 15), (1, gx_r 191)], [.inl 0], t0, n, 0)) rfl (fun _ => rfl) rfl ?_
  refine ex_go (S := (2, [(2, .inl 0), (0, gx_r 15), (1, gx_r 191)], [], t0, n, 0)) rfl (fun _ => rfl) rfl ?_
  exact hh_l191 d n g0 hC hw hS hb ⟨_, rfl, rfl⟩ (w 0 4) 0 _ (by first | decide | omega) rfl rfl rfl rfl
theorem mc_l191 (d n : Nat) {tb : en_H} {w : Nat → Nat → Nat} {L : List Nat} {σ : Nat → Nat} {g st wh : Nat} {Q : en_O → Prop} (hC : CW tb 191 w L) (hw : WS w) (k10 : ai_hv tb 0 10 = some (gx_r 191)) (hb : sbd σ) (hg : g < 2147483648) (hst : st ≤ 100) (hwh : wh ≤ 2) (hQ : ∀ t1 v0, ai_HG ah_G t1 → (∀ c i, ¬ (c = 231 ∨ (15 ≤ c ∧ c ≤ 21)) → ai_hv t1 c i = ai_hv tb c i) → v0 = mans w L σ g st wh → Q (.inl (some (.inl v0), t1, n, 0))) : ∀ j k cl t0, k + j = st → ai_HG ah_G t0 → (∀ c i, ¬ (c = 231 ∨ (15 ≤ c ∧ c ≤ 21)) → ai_hv t0 c i = ai_hv tb c i) → SC t0 15 (w 0 2) (w 0 4) (mos w L σ g k).1 → en_ld cl 0 = some (gx_r 0) → en_ld cl 2 = some (.inl st) → en_ld cl 3 = some (.inl wh) → en_ld cl 4 = some (.inr (.inl (mos w L σ g k).2)) → en_ld cl 6 = some (.inl (mov w L σ g k)) → en_ld cl 7 = some (.inl (moe w L σ g k)) → en_ld cl 8 = some (.inl (moh w L σ g k)) → en_ld cl 9 = some (.inl k) → en_ex none (en_u (d + 4)) (en_code 81) (fun _ => false) (59, cl, [], t0, n, 0) Q := by
  have hT := hw.1.2.2.1
  intro j
  induction j with
  | zero =>
    intro k cl t0 hk g0 e0 i0 l0 l2 l3 l4 l6 l7 l8 l9
    obtain ⟨⟨hbk, hgk⟩, hm4, hm5, hm6⟩ := mo_bd (L := L) hw hb hg k
    have hk : k = st := by omega
    subst hk
    refine gx_ld (i := 9) (d := 0) (v := .inl k) rfl (fun _ => rfl) l9 rfl rfl ?_
    refine gx_ld (i := 2) (d := 0) (v := .inl k) rfl (fun _ => rfl) l2 rfl rfl ?_
    refine gx_2t (c := .ge) rfl (by first | decide | omega) (by first | decide | omega) (show k ≤ k from by omega) rfl ?_
    refine gx_ld (i := 3) (d := 0) (v := .inl wh) rfl (fun _ => rfl) l3 rfl rfl ?_
    by_cases hc21 : wh ≠ 0
    · refine gx_1t (c := .ne) rfl (by first | decide | omega) hc21 rfl ?_
      refine gx_ld (i := 3) (d := 0) (v := .inl wh) rfl (fun _ => rfl) l3 rfl rfl ?_
      refine ex_go (S := (151, cl, [.inl 1, .inl wh], t0, n, 0)) rfl (fun _ => rfl) rfl ?_
      by_cases hc22 : wh ≠ 1
      · refine gx_2t (c := .ne) rfl (by first | decide | omega) (by first | decide | omega) hc22 rfl ?_
        refine gx_ld (i := 8) (d := 0) (v := .inl (moh w L σ g k)) rfl (fun _ => rfl) l8 rfl rfl ?_
        refine ex_ret (r := (some (.inl (moh w L σ g k)), t0, n, 0)) rfl (fun _ => rfl) ?_
        exact hQ _ _ g0 e0 (by unfold mans; rw [if_neg (by first | decide | omega), if_neg (by first | decide | omega)])
      · refine gx_2f (c := .ne) rfl (by first | decide | omega) (by first | decide | omega) hc22 rfl ?_
        refine gx_ld (i := 7) (d := 0) (v := .inl (moe w L σ g k)) rfl (fun _ => rfl) l7 rfl rfl ?_
        refine ex_go (S := (161, cl, [.inl (moe w L σ g k)], t0, n, 0)) rfl (fun _ => rfl) rfl ?_
        refine ex_ret (r := (some (.inl (moe w L σ g k)), t0, n, 0)) rfl (fun _ => rfl) ?_
        exact hQ _ _ g0 e0 (by unfold mans; rw [if_neg (by first | decide | omega), if_pos (by first | decide | omega)])
    · refine gx_1f (c := .ne) rfl (by first | decide | omega) hc21 rfl ?_
      refine gx_ld (i := 6) (d := 0) (v := .inl (mov w L σ g k)) rfl (fun _ => rfl) l6 rfl rfl ?_
      refine ex_ret (r := (some (.inl (mov w L σ g k)), t0, n, 0)) rfl (fun _ => rfl) ?_
      exact hQ _ _ g0 e0 (by unfold mans; rw [if_pos (by first | decide | omega)])
  | succ j ih =>
    intro k cl t0 hk g0 e0 i0 l0 l2 l3 l4 l6 l7 l8 l9
    obtain ⟨⟨hbk, hgk⟩, hm4, hm5, hm6⟩ := mo_bd (L := L) hw hb hg k
    refine gx_ld (i := 9) (d := 0) (v := .inl k) rfl (fun _ => rfl) l9 rfl rfl ?_
    refine gx_ld (i := 2) (d := 0) (v := .inl st) rfl (fun _ => rfl) l2 rfl rfl ?_
    refine gx_2f (c := .ge) rfl (by first | decide | omega) (by first | decide | omega) (show ¬ (st ≤ k) from by omega) rfl ?_
    refine gx_ld (i := 0) (d := 2) (v := gx_r 0) rfl (fun _ => rfl) l0 rfl rfl ?_
    refine gxo_ref (a := 0) (c := 15) rfl g0 rfl rfl rfl rfl rfl ?_
    refine gx_ld (i := 0) (d := 2) (v := gx_r 0) rfl (fun _ => rfl) l0 rfl rfl ?_
    refine gxo_get (a := 0) rfl g0 rfl rfl ((e0 0 10 (by first | decide | omega)).trans k10) rfl ?_
    refine gx_ld (i := 4) (d := 1) (v := .inr (.inl ((mos w L σ g k).2))) rfl (fun _ => rfl) l4 rfl rfl ?_
    obtain ⟨_, r121, t121, rfl, g121, e121, y121⟩ := sc_stray191 (d + 1) n (σ := (mos w L σ g k).1) (g := (mos w L σ g k).2) g0 (CW_keep hC (fun c i h => e0 c i (by first | decide | omega))) hw hbk i0 hgk
    have hg2 := sgn_lt (w := w) hgk (w 0 2)
    refine gx_callo (a := 15) rfl rfl g0 rfl rfl rfl r121 rfl ?_
    have k22 : ai_hv t121 0 10 = some (gx_r 191) := (e121 0 10 (by first | decide | omega)).trans ((e0 0 10 (by first | decide | omega)).trans k10)
    show en_ex _ _ _ _ (78, cl, [.inr (.inl (sgn w (mos w L σ g k).2 (w 0 2)))], t121, n, 0) _
    refine gx_sto (i := 4) (d := 1) rfl (fun _ => rfl) rfl rfl (fun l23 hl23 ml23 => ?_)
    have l23_0 : en_ld l23 0 = some (gx_r 0) := ml23 0 _ l0 rfl
    have l23_2 : en_ld l23 2 = some (.inl st) := ml23 2 _ l2 rfl
    have l23_3 : en_ld l23 3 = some (.inl wh) := ml23 3 _ l3 rfl
    have l23_6 : en_ld l23 6 = some (.inl (mov w L σ g k)) := ml23 6 _ l6 rfl
    have l23_7 : en_ld l23 7 = some (.inl (moe w L σ g k)) := ml23 7 _ l7 rfl
    have l23_8 : en_ld l23 8 = some (.inl (moh w L σ g k)) := ml23 8 _ l8 rfl
    have l23_9 : en_ld l23 9 = some (.inl k) := ml23 9 _ l9 rfl
    refine gx_ld (i := 7) (d := 0) (v := .inl (moe w L σ g k)) rfl (fun _ => rfl) l23_7 rfl rfl ?_
    refine gx_ld (i := 0) (d := 2) (v := gx_r 0) rfl (fun _ => rfl) l23_0 rfl rfl ?_
    refine gxo_ref (a := 0) (c := 15) rfl g121 rfl rfl rfl rfl rfl ?_
    refine gx_ld (i := 0) (d := 2) (v := gx_r 0) rfl (fun _ => rfl) l23_0 rfl rfl ?_
    refine gxo_get (a := 0) rfl g121 rfl rfl k22 rfl ?_
    obtain ⟨_, r124, t124, rfl, g124, e124, y124⟩ := sc_pass15_191 d n (σ := (stray w (mos w L σ g k).2 (mos w L σ g k).1)) g121 (CW_keep hC (fun c i h => (e121 c i (by first | decide | omega)).trans (e0 c i (by first | decide | omega)))) hw (sbd_stray hw hbk) y121
    have hea := eaten_le (w := w) (L := L) (σ := (stray w (mos w L σ g k).2 (mos w L σ g k).1))
    have hb2 := (mo_bd (L := L) hw hb hg (k + 1)).1.1
    refine gx_callo (a := 15) rfl rfl g121 rfl rfl rfl r124 rfl ?_
    have k25 : ai_hv t124 0 10 = some (gx_r 191) := (e124 0 10 (by first | decide | omega)).trans k22
    show en_ex _ _ _ _ (93, l23, [.inl (eaten w L (stray w (mos w L σ g k).2 (mos w L σ g k).1)), .inl (moe w L σ g k)], t124, n, 0) _
    refine ex_iadd rfl (by first | decide | omega) rfl ?_
    refine gx_sto (i := 7) (d := 0) rfl (fun _ => rfl) rfl rfl (fun l26 hl26 ml26 => ?_)
    have l26_0 : en_ld l26 0 = some (gx_r 0) := ml26 0 _ l23_0 rfl
    have l26_2 : en_ld l26 2 = some (.inl st) := ml26 2 _ l23_2 rfl
    have l26_3 : en_ld l26 3 = some (.inl wh) := ml26 3 _ l23_3 rfl
    have l26_6 : en_ld l26 6 = some (.inl (mov w L σ g k)) := ml26 6 _ l23_6 rfl
    have l26_8 : en_ld l26 8 = some (.inl (moh w L σ g k)) := ml26 8 _ l23_8 rfl
    have l26_9 : en_ld l26 9 = some (.inl k) := ml26 9 _ l23_9 rfl
    have l26_4 : en_ld l26 4 = some (.inr (.inl (sgn w (mos w L σ g k).2 (w 0 2)))) := ml26 4 _ hl23 rfl
    refine gx_ld (i := 6) (d := 0) (v := .inl (mov w L σ g k)) rfl (fun _ => rfl) l26_6 rfl rfl ?_
    refine gx_ld (i := 0) (d := 2) (v := gx_r 0) rfl (fun _ => rfl) l26_0 rfl rfl ?_
    refine gxo_ref (a := 0) (c := 15) rfl g124 rfl rfl rfl rfl rfl ?_
    refine gx_ld (i := 0) (d := 2) (v := gx_r 0) rfl (fun _ => rfl) l26_0 rfl rfl ?_
    refine gxo_get (a := 0) rfl g124 rfl rfl k25 rfl ?_
    obtain ⟨_, r27, rfl⟩ := sc_bears191 (d + 2) n (σ := (mos w L σ g (k + 1)).1) g124 (CW_keep hC (fun c i h => (e124 c i (by first | decide | omega)).trans ((e121 c i (by first | decide | omega)).trans (e0 c i (by first | decide | omega))))) hw y124 hb2
    have hbn := bearn_le (w := w) (σ := (mos w L σ g (k + 1)).1) (w 0 2)
    refine gx_callo (a := 15) rfl rfl g124 rfl rfl rfl r27 rfl ?_
    show en_ex _ _ _ _ (109, l26, [.inl (bearn w (mos w L σ g (k + 1)).1 (w 0 2)), .inl (mov w L σ g k)], t124, n, 0) _
    refine ex_iadd rfl (by first | decide | omega) rfl ?_
    refine gx_sto (i := 6) (d := 0) rfl (fun _ => rfl) rfl rfl (fun l28 hl28 ml28 => ?_)
    have l28_0 : en_ld l28 0 = some (gx_r 0) := ml28 0 _ l26_0 rfl
    have l28_2 : en_ld l28 2 = some (.inl st) := ml28 2 _ l26_2 rfl
    have l28_3 : en_ld l28 3 = some (.inl wh) := ml28 3 _ l26_3 rfl
    have l28_8 : en_ld l28 8 = some (.inl (moh w L σ g k)) := ml28 8 _ l26_8 rfl
    have l28_9 : en_ld l28 9 = some (.inl k) := ml28 9 _ l26_9 rfl
    have l28_4 : en_ld l28 4 = some (.inr (.inl (sgn w (mos w L σ g k).2 (w 0 2)))) := ml28 4 _ l26_4 rfl
    have l28_7 : en_ld l28 7 = some (.inl ((moe w L σ g k) + (eaten w L (stray w (mos w L σ g k).2 (mos w L σ g k).1)))) := ml28 7 _ hl26 rfl
    refine gx_ld (i := 8) (d := 0) (v := .inl (moh w L σ g k)) rfl (fun _ => rfl) l28_8 rfl rfl ?_
    refine gx_ld (i := 0) (d := 2) (v := gx_r 0) rfl (fun _ => rfl) l28_0 rfl rfl ?_
    refine gxo_ref (a := 0) (c := 15) rfl g124 rfl rfl rfl rfl rfl ?_
    refine gx_ld (i := 0) (d := 2) (v := gx_r 0) rfl (fun _ => rfl) l28_0 rfl rfl ?_
    refine gxo_get (a := 0) rfl g124 rfl rfl k25 rfl ?_
    obtain ⟨_, r29, rfl⟩ := sc_hungry191 (d + 3) n (σ := (mos w L σ g (k + 1)).1) g124 (CW_keep hC (fun c i h => (e124 c i (by first | decide | omega)).trans ((e121 c i (by first | decide | omega)).trans (e0 c i (by first | decide | omega))))) hw y124 hb2
    refine gx_callo (a := 15) rfl rfl g124 rfl rfl rfl r29 rfl ?_
    show en_ex _ _ _ _ (125, l28, [.inl (b2n (hun (mos w L σ g (k + 1)).1 (w 0 4))), .inl (moh w L σ g k)], t124, n, 0) _
    cases hh9 : hun (mos w L σ g (k + 1)).1 (w 0 4)
    · show en_ex _ _ _ _ (125, l28, [.inl 0, .inl (moh w L σ g k)], t124, n, 0) _
      refine ex_go (S := (132, l28, [.inl (moh w L σ g k)], t124, n, 0)) rfl (fun _ => rfl) rfl ?_
      refine ex_go (S := (133, l28, [.inl 0, .inl (moh w L σ g k)], t124, n, 0)) rfl (fun _ => rfl) rfl ?_
      refine ex_iadd rfl (by first | decide | omega) rfl ?_
      refine gx_sto (i := 8) (d := 0) rfl (fun _ => rfl) rfl rfl (fun l30 hl30 ml30 => ?_)
      have l30_0 : en_ld l30 0 = some (gx_r 0) := ml30 0 _ l28_0 rfl
      have l30_2 : en_ld l30 2 = some (.inl st) := ml30 2 _ l28_2 rfl
      have l30_3 : en_ld l30 3 = some (.inl wh) := ml30 3 _ l28_3 rfl
      have l30_9 : en_ld l30 9 = some (.inl k) := ml30 9 _ l28_9 rfl
      have l30_4 : en_ld l30 4 = some (.inr (.inl (sgn w (mos w L σ g k).2 (w 0 2)))) := ml30 4 _ l28_4 rfl
      have l30_7 : en_ld l30 7 = some (.inl ((moe w L σ g k) + (eaten w L (stray w (mos w L σ g k).2 (mos w L σ g k).1)))) := ml30 7 _ l28_7 rfl
      have l30_6 : en_ld l30 6 = some (.inl ((mov w L σ g k) + (bearn w (mos w L σ g (k + 1)).1 (w 0 2)))) := ml30 6 _ hl28 rfl
      refine gx_incS (i := 9) (a := k) (x := 1) rfl (fun _ => rfl) l30_9 (by first | decide | omega) rfl (fun l31 hl31 ml31 => ?_)
      have l31_0 : en_ld l31 0 = some (gx_r 0) := ml31 0 _ l30_0 rfl
      have l31_2 : en_ld l31 2 = some (.inl st) := ml31 2 _ l30_2 rfl
      have l31_3 : en_ld l31 3 = some (.inl wh) := ml31 3 _ l30_3 rfl
      have l31_4 : en_ld l31 4 = some (.inr (.inl (sgn w (mos w L σ g k).2 (w 0 2)))) := ml31 4 _ l30_4 rfl
      have l31_7 : en_ld l31 7 = some (.inl ((moe w L σ g k) + (eaten w L (stray w (mos w L σ g k).2 (mos w L σ g k).1)))) := ml31 7 _ l30_7 rfl
      have l31_6 : en_ld l31 6 = some (.inl ((mov w L σ g k) + (bearn w (mos w L σ g (k + 1)).1 (w 0 2)))) := ml31 6 _ l30_6 rfl
      have l31_8 : en_ld l31 8 = some (.inl ((moh w L σ g k) + 0)) := ml31 8 _ hl30 rfl
      refine ex_go (S := (59, l31, [], t124, n, 0)) rfl (fun _ => rfl) rfl ?_
      have e4 : mov w L σ g (k + 1) = (mov w L σ g k) + (bearn w (mos w L σ g (k + 1)).1 (w 0 2)) := rfl
      have e5 : moe w L σ g (k + 1) = (moe w L σ g k) + (eaten w L (stray w (mos w L σ g k).2 (mos w L σ g k).1)) := rfl
      have e6 : moh w L σ g (k + 1) = (moh w L σ g k) + 0 := by show moh w L σ g k + b2n (hun (mos w L σ g (k + 1)).1 (w 0 4)) = _; rw [hh9]; rfl
      exact ih (k + 1) _ _ (by first | decide | omega) g124 (fun c i h => (e124 c i (by first | decide | omega)).trans ((e121 c i (by first | decide | omega)).trans (e0 c i h))) y124 l31_0 l31_2 l31_3 l31_4 (by rw [e4]; exact l31_6) (by rw [e5]; exact l31_7) (by rw [e6]; exact l31_8) hl31
    · show en_ex _ _ _ _ (125, l28, [.inl 1, .inl (moh w L σ g k)], t124, n, 0) _
      refine ex_go (S := (128, l28, [.inl (moh w L σ g k)], t124, n, 0)) rfl (fun _ => rfl) rfl ?_
      refine ex_go (S := (129, l28, [.inl 1, .inl (moh w L σ g k)], t124, n, 0)) rfl (fun _ => rfl) rfl ?_
      refine ex_go (S := (133, l28, [.inl 1, .inl (moh w L σ g k)], t124, n, 0)) rfl (fun _ => rfl) rfl ?_
      refine ex_iadd rfl (by first | decide | omega) rfl ?_
      refine gx_sto (i := 8) (d := 0) rfl (fun _ => rfl) rfl rfl (fun l32 hl32 ml32 => ?_)
      have l32_0 : en_ld l32 0 = some (gx_r 0) := ml32 0 _ l28_0 rfl
      have l32_2 : en_ld l32 2 = some (.inl st) := ml32 2 _ l28_2 rfl
      have l32_3 : en_ld l32 3 = some (.inl wh) := ml32 3 _ l28_3 rfl
      have l32_9 : en_ld l32 9 = some (.inl k) := ml32 9 _ l28_9 rfl
      have l32_4 : en_ld l32 4 = some (.inr (.inl (sgn w (mos w L σ g k).2 (w 0 2)))) := ml32 4 _ l28_4 rfl
      have l32_7 : en_ld l32 7 = some (.inl ((moe w L σ g k) + (eaten w L (stray w (mos w L σ g k).2 (mos w L σ g k).1)))) := ml32 7 _ l28_7 rfl
      have l32_6 : en_ld l32 6 = some (.inl ((mov w L σ g k) + (bearn w (mos w L σ g (k + 1)).1 (w 0 2)))) := ml32 6 _ hl28 rfl
      refine gx_incS (i := 9) (a := k) (x := 1) rfl (fun _ => rfl) l32_9 (by first | decide | omega) rfl (fun l33 hl33 ml33 => ?_)
      have l33_0 : en_ld l33 0 = some (gx_r 0) := ml33 0 _ l32_0 rfl
      have l33_2 : en_ld l33 2 = some (.inl st) := ml33 2 _ l32_2 rfl
      have l33_3 : en_ld l33 3 = some (.inl wh) := ml33 3 _ l32_3 rfl
      have l33_4 : en_ld l33 4 = some (.inr (.inl (sgn w (mos w L σ g k).2 (w 0 2)))) := ml33 4 _ l32_4 rfl
      have l33_7 : en_ld l33 7 = some (.inl ((moe w L σ g k) + (eaten w L (stray w (mos w L σ g k).2 (mos w L σ g k).1)))) := ml33 7 _ l32_7 rfl
      have l33_6 : en_ld l33 6 = some (.inl ((mov w L σ g k) + (bearn w (mos w L σ g (k + 1)).1 (w 0 2)))) := ml33 6 _ l32_6 rfl
      have l33_8 : en_ld l33 8 = some (.inl ((moh w L σ g k) + 1)) := ml33 8 _ hl32 rfl
      refine ex_go (S := (59, l33, [], t124, n, 0)) rfl (fun _ => rfl) rfl ?_
      have e4 : mov w L σ g (k + 1) = (mov w L σ g k) + (bearn w (mos w L σ g (k + 1)).1 (w 0 2)) := rfl
      have e5 : moe w L σ g (k + 1) = (moe w L σ g k) + (eaten w L (stray w (mos w L σ g k).2 (mos w L σ g k).1)) := rfl
      have e6 : moh w L σ g (k + 1) = (moh w L σ g k) + 1 := by show moh w L σ g k + b2n (hun (mos w L σ g (k + 1)).1 (w 0 4)) = _; rw [hh9]; rfl
      exact ih (k + 1) _ _ (by first | decide | omega) g124 (fun c i h => (e124 c i (by first | decide | omega)).trans ((e121 c i (by first | decide | omega)).trans (e0 c i h))) y124 l33_0 l33_2 l33_3 l33_4 (by rw [e4]; exact l33_6) (by rw [e5]; exact l33_7) (by rw [e6]; exact l33_8) hl33
theorem sc_months191 (d n : Nat) {t0 : en_H} {w : Nat → Nat → Nat} {L : List Nat} {σ : Nat → Nat} {x y z : Nat} (g0 : ai_HG ah_G t0) (hC : CW t0 191 w L) (hw : WS w) (k10 : ai_hv t0 0 10 = some (gx_r 191)) (hS : SC t0 8 (w 0 2) (w 0 4) σ) (hb : sbd σ) (hx : x < 4294967296) (hy : y < 4294967296) (hz : z < 4294967296) : ∃ r, en_u (d + 5) 81 [gx_r 0, .inl x, .inl y, .inl z] t0 n = some r ∧ ∃ v t', r = (some (.inl v), t', n, 0) ∧ ai_HG ah_G t' ∧ (∀ c i, ¬ (c = 231 ∨ (15 ≤ c ∧ c ≤ 21)) → ai_hv t' c i = ai_hv t0 c i) ∧ ((x ≤ 9999 ∧ (1 ≤ y ∧ y ≤ 100) ∧ z ≤ 2) → v = mans w L σ x y z) ∧ (¬ (x ≤ 9999 ∧ (1 ≤ y ∧ y ≤ 100) ∧ z ≤ 2) → v = 4294967295) := by
  refine en_u_ex (d := d + 4) rfl ?_
  show en_ex _ _ _ _ (0, [(0, gx_r 0), (1, .inl x), (2, .inl y), (3, .inl z)], [], t0, n, 0) _
  refine ex_go (S := (1, [(0, gx_r 0), (1, .inl x), (2, .inl y), (3, .inl z)], [.inl x], t0, n, 0)) rfl (fun _ => rfl) rfl ?_
  refine ex_go (S := (2, [(0, gx_r 0), (1, .inl x), (2, .inl y), (3, .inl z)], [.inl 0, .inl x], t0, n, 0)) rfl (fun _ => rfl) rfl ?_
  refine ex_go (S := (5, [(0, gx_r 0), (1, .inl x), (2, .inl y), (3, .inl z)], [.inl 9999, .inl 0, .inl x], t0, n, 0)) rfl (fun _ => rfl) rfl ?_
  obtain ⟨_, r21, b22, rfl, b22b, q23⟩ := pz_isWithin (d + 3) n (t0 := t0) (x := x) (lo := 0) (hi := 9999) (by first | decide | omega) (by first | decide | omega) (by first | decide | omega)
  refine ex_stat rfl rfl rfl rfl rfl r21 (Nat.le_refl _) rfl ?_
  show en_ex _ _ _ _ (8, [(0, gx_r 0), (1, .inl x), (2, .inl y), (3, .inl z)], [.inl b22], t0, n, 0) _
  by_cases hc24 : b22 = 0
  · refine gx_1t (c := .eq) rfl (by first | decide | omega) hc24 rfl ?_
    refine ex_go (S := (31, [(0, gx_r 0), (1, .inl x), (2, .inl y), (3, .inl z)], [.inl 4294967295], t0, n, 0)) rfl (fun _ => rfl) rfl ?_
    refine ex_ret (r := (some (.inl 4294967295), t0, n, 0)) rfl (fun _ => rfl) ?_
    exact ⟨_, rfl, _, _, rfl, g0, (fun _ _ _ => rfl), (fun c9 => by omega), (fun _ => rfl)⟩
  · refine gx_1f (c := .eq) rfl (by first | decide | omega) hc24 rfl ?_
    refine ex_go (S := (12, [(0, gx_r 0), (1, .inl x), (2, .inl y), (3, .inl z)], [.inl y], t0, n, 0)) rfl (fun _ => rfl) rfl ?_
    refine ex_go (S := (13, [(0, gx_r 0), (1, .inl x), (2, .inl y), (3, .inl z)], [.inl 1, .inl y], t0, n, 0)) rfl (fun _ => rfl) rfl ?_
    refine ex_go (S := (15, [(0, gx_r 0), (1, .inl x), (2, .inl y), (3, .inl z)], [.inl 100, .inl 1, .inl y], t0, n, 0)) rfl (fun _ => rfl) rfl ?_
    obtain ⟨_, r25, b26, rfl, b26b, q27⟩ := pz_isWithin (d + 3) n (t0 := t0) (x := y) (lo := 1) (hi := 100) (by first | decide | omega) (by first | decide | omega) (by first | decide | omega)
    refine ex_stat rfl rfl rfl rfl rfl r25 (Nat.le_refl _) rfl ?_
    show en_ex _ _ _ _ (18, [(0, gx_r 0), (1, .inl x), (2, .inl y), (3, .inl z)], [.inl b26], t0, n, 0) _
    by_cases hc28 : b26 = 0
    · refine gx_1t (c := .eq) rfl (by first | decide | omega) hc28 rfl ?_
      refine ex_go (S := (31, [(0, gx_r 0), (1, .inl x), (2, .inl y), (3, .inl z)], [.inl 4294967295], t0, n, 0)) rfl (fun _ => rfl) rfl ?_
      refine ex_ret (r := (some (.inl 4294967295), t0, n, 0)) rfl (fun _ => rfl) ?_
      exact ⟨_, rfl, _, _, rfl, g0, (fun _ _ _ => rfl), (fun c9 => by omega), (fun _ => rfl)⟩
    · refine gx_1f (c := .eq) rfl (by first | decide | omega) hc28 rfl ?_
      refine ex_go (S := (22, [(0, gx_r 0), (1, .inl x), (2, .inl y), (3, .inl z)], [.inl z], t0, n, 0)) rfl (fun _ => rfl) rfl ?_
      refine ex_go (S := (23, [(0, gx_r 0), (1, .inl x), (2, .inl y), (3, .inl z)], [.inl 0, .inl z], t0, n, 0)) rfl (fun _ => rfl) rfl ?_
      refine ex_go (S := (24, [(0, gx_r 0), (1, .inl x), (2, .inl y), (3, .inl z)], [.inl 2, .inl 0, .inl z], t0, n, 0)) rfl (fun _ => rfl) rfl ?_
      obtain ⟨_, r29, b30, rfl, b30b, q31⟩ := pz_isWithin (d + 3) n (t0 := t0) (x := z) (lo := 0) (hi := 2) (by first | decide | omega) (by first | decide | omega) (by first | decide | omega)
      refine ex_stat rfl rfl rfl rfl rfl r29 (Nat.le_refl _) rfl ?_
      show en_ex _ _ _ _ (27, [(0, gx_r 0), (1, .inl x), (2, .inl y), (3, .inl z)], [.inl b30], t0, n, 0) _
      by_cases hc32 : b30 ≠ 0
      · refine gx_1t (c := .ne) rfl (by first | decide | omega) hc32 rfl ?_
        refine ex_go (S := (33, [(0, gx_r 0), (1, .inl x), (2, .inl y), (3, .inl z)], [gx_r 0], t0, n, 0)) rfl (fun _ => rfl) rfl ?_
        refine gxo_ref (a := 0) (c := 15) rfl g0 rfl rfl rfl rfl rfl ?_
        refine ex_go (S := (37, [(0, gx_r 0), (1, .inl x), (2, .inl y), (3, .inl z)], [gx_r 0, gx_r 15], t0, n, 0)) rfl (fun _ => rfl) rfl ?_
        refine gxo_ref (a := 0) (c := 8) rfl g0 rfl rfl rfl rfl rfl ?_
        obtain ⟨_, r133, t133, rfl, g133, e133, ya, yb, yc⟩ := sc_take (d + 3) n (A := 15) (B := 8) g0 StA_15 StA_8 (by unfold StD; omega)
        have hs9 := SC_take hS hw.1.2.2.1 hw.1.2.2.2.2.1 ya yb yc
        refine gx_callo (a := 15) rfl rfl g0 rfl rfl rfl r133 rfl ?_
        have k34 : ai_hv t133 0 10 = some (gx_r 191) := (e133 0 10 (by first | decide | omega)).trans k10
        show en_ex _ _ _ _ (43, [(0, gx_r 0), (1, .inl x), (2, .inl y), (3, .inl z)], [], t133, n, 0) _
        refine ex_go (S := (44, [(0, gx_r 0), (1, .inl x), (2, .inl y), (3, .inl z)], [.inl x], t133, n, 0)) rfl (fun _ => rfl) rfl ?_
        refine ex_go (S := (45, [(0, gx_r 0), (1, .inl x), (2, .inl y), (3, .inl z)], [.inr (.inl ((nI x).toInt64.toBitVec.toNat))], t133, n, 0)) rfl (fun _ => rfl) rfl ?_
        rw [sp_i2l (show x < 2147483648 from by omega)]
        refine ex_go (S := (47, [(4, .inr (.inl x)), (0, gx_r 0), (1, .inl x), (2, .inl y), (3, .inl z)], [], t133, n, 0)) rfl (fun _ => rfl) rfl ?_
        refine ex_go (S := (48, [(4, .inr (.inl x)), (0, gx_r 0), (1, .inl x), (2, .inl y), (3, .inl z)], [.inl 0], t133, n, 0)) rfl (fun _ => rfl) rfl ?_
        refine ex_go (S := (50, [(6, .inl 0), (4, .inr (.inl x)), (0, gx_r 0), (1, .inl x), (2, .inl y), (3, .inl z)], [], t133, n, 0)) rfl (fun _ => rfl) rfl ?_
        refine ex_go (S := (51, [(6, .inl 0), (4, .inr (.inl x)), (0, gx_r 0), (1, .inl x), (2, .inl y), (3, .inl z)], [.inl 0], t133, n, 0)) rfl (fun _ => rfl) rfl ?_
        refine ex_go (S := (53, [(7, .inl 0), (6, .inl 0), (4, .inr (.inl x)), (0, gx_r 0), (1, .inl x), (2, .inl y), (3, .inl z)], [], t133, n, 0)) rfl (fun _ => rfl) rfl ?_
        refine ex_go (S := (54, [(7, .inl 0), (6, .inl 0), (4, .inr (.inl x)), (0, gx_r 0), (1, .inl x), (2, .inl y), (3, .inl z)], [.inl 0], t133, n, 0)) rfl (fun _ => rfl) rfl ?_
        refine ex_go (S := (56, [(8, .inl 0), (7, .inl 0), (6, .inl 0), (4, .inr (.inl x)), (0, gx_r 0), (1, .inl x), (2, .inl y), (3, .inl z)], [], t133, n, 0)) rfl (fun _ => rfl) rfl ?_
        refine ex_go (S := (57, [(8, .inl 0), (7, .inl 0), (6, .inl 0), (4, .inr (.inl x)), (0, gx_r 0), (1, .inl x), (2, .inl y), (3, .inl z)], [.inl 0], t133, n, 0)) rfl (fun _ => rfl) rfl ?_
        refine ex_go (S := (59, [(9, .inl 0), (8, .inl 0), (7, .inl 0), (6, .inl 0), (4, .inr (.inl x)), (0, gx_r 0), (1, .inl x), (2, .inl y), (3, .inl z)], [], t133, n, 0)) rfl (fun _ => rfl) rfl ?_
        exact mc_l191 d n (tb := t133) (σ := σ) (g := x) (st := y) (wh := z) (CW_keep hC (fun c i h => e133 c i (by first | decide | omega))) hw ((e133 0 10 (by first | decide | omega)).trans (k10)) hb (by first | decide | omega) (by first | decide | omega) (by first | decide | omega) (fun t1 v0 g1 e1 hv => ⟨_, rfl, _, _, rfl, g1, (fun c i h => (e1 c i h).trans (e133 c i (by first | decide | omega))), (fun _ => hv), (fun c9 => absurd ⟨by omega, ⟨by omega, by omega⟩, by omega⟩ c9)⟩) y 0 _ _ (by first | decide | omega) g133 (fun _ _ _ => rfl) hs9 rfl rfl rfl rfl rfl rfl rfl rfl
      · refine gx_1f (c := .ne) rfl (by first | decide | omega) hc32 rfl ?_
        refine ex_go (S := (31, [(0, gx_r 0), (1, .inl x), (2, .inl y), (3, .inl z)], [.inl 4294967295], t0, n, 0)) rfl (fun _ => rfl) rfl ?_
        refine ex_ret (r := (some (.inl 4294967295), t0, n, 0)) rfl (fun _ => rfl) ?_
        exact ⟨_, rfl, _, _, rfl, g0, (fun _ _ _ => rfl), (fun c9 => by omega), (fun _ => rfl)⟩
theorem sb_l257 (d n : Nat) {tb : en_H} {w : Nat → Nat → Nat} {L : List Nat} {σ : Nat → Nat} {g : Nat} {Q : en_O → Prop} (hC : CW tb 257 w L) (hw : WS w) (hb : sbd σ) (hg : g < 2147483648) (hQ : ∀ t1, ai_HG ah_G t1 → (∀ c i, c ≠ 16 → ai_hv t1 c i = ai_hv tb c i) → (∀ i, i < w 0 2 → ai_hv t1 16 i = some (.inl (if i < w 0 2 then spl w g σ i else σ (1 + i)))) → Q (.inl (some (.inr (.inl (sgn w g (w 0 2)))), t1, n, 0))) : ∀ j k cl t0, k + j = w 0 2 → ai_HG ah_G t0 → (∀ c i, c ≠ 16 → ai_hv t0 c i = ai_hv tb c i) → (∀ i, i < w 0 2 → ai_hv t0 16 i = some (.inl (if i < k then spl w g σ i else σ (1 + i)))) → en_ld cl 0 = some (gx_r 15) → en_ld cl 1 = some (gx_r 257) → en_ld cl 4 = some (.inr (.inl (sgn w g k))) → en_ld cl 6 = some (.inl k) → en_ex none (en_u (d + 2)) (en_code 163) (fun _ => false) (6, cl, [], t0, n, 0) Q := by
  have hT := hw.1.2.2.1
  intro j
  induction j with
  | zero =>
    intro k cl t0 hk g0 e0 i0 l0 l1 l4 l6
    have kT := (e0 260 5 (by decide)).trans hC.1.2.2.2.1
    have hk : k = w 0 2 := by omega
    rw [hk] at i0 l4
    refine gx_ld (i := 6) (d := 0) (v := .inl k) rfl (fun _ => rfl) l6 rfl rfl ?_
    refine gx_ld (i := 1) (d := 2) (v := gx_r 257) rfl (fun _ => rfl) l1 rfl rfl ?_
    refine gxo_ref (a := 257) (c := 260) rfl g0 rfl rfl rfl rfl rfl ?_
    refine gxo_get (a := 260) rfl g0 rfl rfl kT rfl ?_
    refine gx_2t (c := .ge) rfl (by first | decide | omega) (by first | decide | omega) (show w 0 2 ≤ k from by omega) rfl ?_
    refine gx_ld (i := 4) (d := 1) (v := .inr (.inl (sgn w g (w 0 2)))) rfl (fun _ => rfl) l4 rfl rfl ?_
    refine ex_ret (r := (some (.inr (.inl (sgn w g (w 0 2)))), t0, n, 0)) rfl (fun _ => rfl) ?_
    exact hQ _ g0 e0 i0
  | succ j ih =>
    intro k cl t0 hk g0 e0 i0 l0 l1 l4 l6
    have kT := (e0 260 5 (by decide)).trans hC.1.2.2.2.1
    have kp := i0 k (by first | decide | omega)
    rw [if_neg (by first | decide | omega)] at kp
    have hp := hb.1 k (by first | decide | omega)
    have hgk := sgn_lt (w := w) hg k
    have kk := (e0 262 k (by decide)).trans (hC.2.2.2.1 k (by first | decide | omega)).1
    have hkd := (hw.2.2.1 k (by first | decide | omega)).1
    refine gx_ld (i := 6) (d := 0) (v := .inl k) rfl (fun _ => rfl) l6 rfl rfl ?_
    refine gx_ld (i := 1) (d := 2) (v := gx_r 257) rfl (fun _ => rfl) l1 rfl rfl ?_
    refine gxo_ref (a := 257) (c := 260) rfl g0 rfl rfl rfl rfl rfl ?_
    refine gxo_get (a := 260) rfl g0 rfl rfl kT rfl ?_
    refine gx_2f (c := .ge) rfl (by first | decide | omega) (by first | decide | omega) (show ¬ (w 0 2 ≤ k) from by omega) rfl ?_
    refine gx_ld (i := 1) (d := 2) (v := gx_r 257) rfl (fun _ => rfl) l1 rfl rfl ?_
    refine gxo_ref (a := 257) (c := 260) rfl g0 rfl rfl rfl rfl rfl ?_
    refine gxo_ref (a := 260) (c := 262) rfl g0 rfl rfl rfl rfl rfl ?_
    refine gx_ld (i := 6) (d := 0) (v := .inl k) rfl (fun _ => rfl) l6 rfl rfl ?_
    refine gx_ag (v := .inl (w 5 k)) (cb := fun c => Nat.beq c 0) rfl (fun _ => rfl) g0 rfl rfl kk (by first | decide | omega) rfl ?_
    refine ex_go (S := (29, cl, [.inl 2, .inl (w 5 k)], t0, n, 0)) rfl (fun _ => rfl) rfl ?_
    by_cases hc9 : w 5 k = 2
    · refine gx_2f (c := .ne) rfl (by first | decide | omega) (by first | decide | omega) (show ¬ (w 5 k ≠ 2) from by omega) rfl ?_
      refine gx_ld (i := 4) (d := 1) (v := .inr (.inl (sgn w g k))) rfl (fun _ => rfl) l4 rfl rfl ?_
      refine ex_go (S := (37, cl, [.inr (.inl 1103515245), .inr (.inl (sgn w g k))], t0, n, 0)) rfl (fun _ => rfl) rfl ?_
      refine ex_go (S := (38, cl, [.inr (.inl ((lN (sgn w g k) * lN 1103515245).toBitVec.toNat))], t0, n, 0)) rfl (fun _ => rfl) rfl ?_
      rw [sp_lmul (show (sgn w g k) * 1103515245 < 18446744073709551616 from by omega)]
      refine ex_go (S := (41, cl, [.inr (.inl 12345), .inr (.inl ((sgn w g k) * 1103515245))], t0, n, 0)) rfl (fun _ => rfl) rfl ?_
      refine ex_go (S := (42, cl, [.inr (.inl ((lN ((sgn w g k) * 1103515245) + lN 12345).toBitVec.toNat))], t0, n, 0)) rfl (fun _ => rfl) rfl ?_
      rw [sp_ladd (show ((sgn w g k) * 1103515245) + 12345 < 18446744073709551616 from by omega)]
      refine ex_go (S := (45, cl, [.inr (.inl 2147483648), .inr (.inl (((sgn w g k) * 1103515245) + 12345))], t0, n, 0)) rfl (fun _ => rfl) rfl ?_
      refine gx_lremn rfl (by first | decide | omega) (by first | decide | omega) (by first | decide | omega) rfl ?_
      refine gx_sto (i := 4) (d := 1) rfl (fun _ => rfl) rfl rfl (fun l21 hl21 ml21 => ?_)
      have l21_0 : en_ld l21 0 = some (gx_r 15) := ml21 0 _ l0 rfl
      have l21_1 : en_ld l21 1 = some (gx_r 257) := ml21 1 _ l1 rfl
      have l21_6 : en_ld l21 6 = some (.inl k) := ml21 6 _ l6 rfl
      refine gx_ld (i := 4) (d := 1) (v := .inr (.inl ((((sgn w g k) * 1103515245) + 12345) % 2147483648))) rfl (fun _ => rfl) hl21 rfl rfl ?_
      refine ex_go (S := (53, l21, [.inr (.inl 65536), .inr (.inl ((((sgn w g k) * 1103515245) + 12345) % 2147483648))], t0, n, 0)) rfl (fun _ => rfl) rfl ?_
      refine gx_ldivn rfl (by first | decide | omega) (by first | decide | omega) (by first | decide | omega) rfl ?_
      refine ex_go (S := (57, l21, [.inr (.inl 10), .inr (.inl (((((sgn w g k) * 1103515245) + 12345) % 2147483648) / 65536))], t0, n, 0)) rfl (fun _ => rfl) rfl ?_
      refine gx_lremn rfl (by first | decide | omega) (by first | decide | omega) (by first | decide | omega) rfl ?_
      refine ex_go (S := (59, l21, [.inl ((lN ((((((sgn w g k) * 1103515245) + 12345) % 2147483648) / 65536) % 10)).toInt32.toBitVec.toNat)], t0, n, 0)) rfl (fun _ => rfl) rfl ?_
      rw [zk_l2i (show (((((sgn w g k) * 1103515245) + 12345) % 2147483648) / 65536) % 10 < 2147483648 from by omega)]
      refine gx_sto (i := 7) (d := 0) rfl (fun _ => rfl) rfl rfl (fun l22 hl22 ml22 => ?_)
      have l22_0 : en_ld l22 0 = some (gx_r 15) := ml22 0 _ l21_0 rfl
      have l22_1 : en_ld l22 1 = some (gx_r 257) := ml22 1 _ l21_1 rfl
      have l22_6 : en_ld l22 6 = some (.inl k) := ml22 6 _ l21_6 rfl
      have l22_4 : en_ld l22 4 = some (.inr (.inl ((((sgn w g k) * 1103515245) + 12345) % 2147483648))) := ml22 4 _ hl21 rfl
      refine gx_ld (i := 7) (d := 0) (v := .inl ((((((sgn w g k) * 1103515245) + 12345) % 2147483648) / 65536) % 10)) rfl (fun _ => rfl) hl22 rfl rfl ?_
      refine ex_go (S := (64, l22, [.inl 4, .inl ((((((sgn w g k) * 1103515245) + 12345) % 2147483648) / 65536) % 10)], t0, n, 0)) rfl (fun _ => rfl) rfl ?_
      by_cases hge : 4 ≤ (((((sgn w g k) * 1103515245) + 12345) % 2147483648) / 65536) % 10
      · refine gx_2t (c := .ge) rfl (by first | decide | omega) (by first | decide | omega) hge rfl ?_
        refine gx_incS (i := 6) (a := k) (x := 1) rfl (fun _ => rfl) l22_6 (by first | decide | omega) rfl (fun l23 hl23 ml23 => ?_)
        have l23_0 : en_ld l23 0 = some (gx_r 15) := ml23 0 _ l22_0 rfl
        have l23_1 : en_ld l23 1 = some (gx_r 257) := ml23 1 _ l22_1 rfl
        have l23_4 : en_ld l23 4 = some (.inr (.inl ((((sgn w g k) * 1103515245) + 12345) % 2147483648))) := ml23 4 _ l22_4 rfl
        have l23_7 : en_ld l23 7 = some (.inl ((((((sgn w g k) * 1103515245) + 12345) % 2147483648) / 65536) % 10)) := ml23 7 _ hl22 rfl
        refine ex_go (S := (6, l23, [], t0, n, 0)) rfl (fun _ => rfl) rfl ?_
        refine ih (k + 1) _ t0 (by first | decide | omega) g0 (fun c i h => e0 c i h) (fun i hi => ?_) l23_0 l23_1 (by rw [sgn_y hc9]; exact l23_4) hl23
        by_cases e9 : i = k
        · subst e9; rw [if_pos (by first | decide | omega), spl_y hc9, nb_ge (show 4 ≤ dv (dr1 (sgn w g i)) from hge)]; exact kp
        · refine ((i0 i hi).trans ?_)
          by_cases c9 : i < k
          · rw [if_pos c9, if_pos (by first | decide | omega)]
          · rw [if_neg c9, if_neg (by first | decide | omega)]
      · refine gx_2f (c := .ge) rfl (by first | decide | omega) (by first | decide | omega) hge rfl ?_
        refine gx_ld (i := 0) (d := 2) (v := gx_r 15) rfl (fun _ => rfl) l22_0 rfl rfl ?_
        refine gxo_ref (a := 15) (c := 16) rfl g0 rfl rfl rfl rfl rfl ?_
        refine gx_ld (i := 6) (d := 0) (v := .inl k) rfl (fun _ => rfl) l22_6 rfl rfl ?_
        refine gx_ld (i := 1) (d := 2) (v := gx_r 257) rfl (fun _ => rfl) l22_1 rfl rfl ?_
        refine gx_ld (i := 0) (d := 2) (v := gx_r 15) rfl (fun _ => rfl) l22_0 rfl rfl ?_
        refine gxo_ref (a := 15) (c := 16) rfl g0 rfl rfl rfl rfl rfl ?_
        refine gx_ld (i := 6) (d := 0) (v := .inl k) rfl (fun _ => rfl) l22_6 rfl rfl ?_
        refine gx_ag (v := .inl (σ (1 + k))) (cb := fun c => Nat.beq c 0) rfl (fun _ => rfl) g0 rfl rfl kp (by first | decide | omega) rfl ?_
        refine gx_ld (i := 7) (d := 0) (v := .inl ((((((sgn w g k) * 1103515245) + 12345) % 2147483648) / 65536) % 10)) rfl (fun _ => rfl) hl22 rfl rfl ?_
        obtain ⟨_, r24, rfl⟩ := sc_nb257 d n (q := σ (1 + k)) (s := (((((sgn w g k) * 1103515245) + 12345) % 2147483648) / 65536) % 10) g0 ((e0 257 0 (by first | decide | omega)).trans hC.1.1) ((e0 257 1 (by first | decide | omega)).trans hC.1.2.1) hw.1.1 hw.1.2.1 (by first | decide | omega) (by first | decide | omega)
        have hnl := nb_lt (O := w 0 0) (D := w 0 1) (p := σ (1 + k)) (s := (((((sgn w g k) * 1103515245) + 12345) % 2147483648) / 65536) % 10) (by first | decide | omega) hw.1.1 hw.1.2.1
        refine gx_callo (a := 257) rfl rfl g0 rfl rfl rfl r24 rfl ?_
        show en_ex _ _ _ _ (86, l22, [.inl (nb (w 0 0) (w 0 1) (σ (1 + k)) ((((((sgn w g k) * 1103515245) + 12345) % 2147483648) / 65536) % 10)), .inl k, gx_r 16], t0, n, 0) _
        refine gx_ap rfl (fun _ => rfl) g0 rfl rfl rfl (show k < 6 from by omega) (gx_run1 (show k < 6 from by omega)) (ai_in_h (by first | decide | omega) (by first | decide | omega) (by first | decide | omega)) rfl (fun t125 g125 k125 e125 => ?_)
        have k26 : ai_hv t125 260 5 = some (.inl (w 0 2)) := (e125 260 5 (by first | decide | omega)).trans kT
        have k27 : ai_hv t125 262 k = some (.inl (w 5 k)) := (e125 262 k (by first | decide | omega)).trans kk
        refine gx_incS (i := 6) (a := k) (x := 1) rfl (fun _ => rfl) l22_6 (by first | decide | omega) rfl (fun l28 hl28 ml28 => ?_)
        have l28_0 : en_ld l28 0 = some (gx_r 15) := ml28 0 _ l22_0 rfl
        have l28_1 : en_ld l28 1 = some (gx_r 257) := ml28 1 _ l22_1 rfl
        have l28_4 : en_ld l28 4 = some (.inr (.inl ((((sgn w g k) * 1103515245) + 12345) % 2147483648))) := ml28 4 _ l22_4 rfl
        have l28_7 : en_ld l28 7 = some (.inl ((((((sgn w g k) * 1103515245) + 12345) % 2147483648) / 65536) % 10)) := ml28 7 _ hl22 rfl
        refine ex_go (S := (6, l28, [], t125, n, 0)) rfl (fun _ => rfl) rfl ?_
        refine ih (k + 1) _ t125 (by first | decide | omega) g125 (fun c i h => (e125 c i (by first | decide | omega)).trans (e0 c i h)) (fun i hi => ?_) l28_0 l28_1 (by rw [sgn_y hc9]; exact l28_4) hl28
        by_cases e9 : i = k
        · subst e9; rw [if_pos (by first | decide | omega), spl_y hc9]; exact k125
        · refine (e125 16 i (by first | decide | omega)).trans ((i0 i hi).trans ?_)
          by_cases c9 : i < k
          · rw [if_pos c9, if_pos (by first | decide | omega)]
          · rw [if_neg c9, if_neg (by first | decide | omega)]
    · refine gx_2t (c := .ne) rfl (by first | decide | omega) (by first | decide | omega) (show w 5 k ≠ 2 from by omega) rfl ?_
      refine gx_incS (i := 6) (a := k) (x := 1) rfl (fun _ => rfl) l6 (by first | decide | omega) rfl (fun l29 hl29 ml29 => ?_)
      have l29_0 : en_ld l29 0 = some (gx_r 15) := ml29 0 _ l0 rfl
      have l29_1 : en_ld l29 1 = some (gx_r 257) := ml29 1 _ l1 rfl
      have l29_4 : en_ld l29 4 = some (.inr (.inl (sgn w g k))) := ml29 4 _ l4 rfl
      refine ex_go (S := (6, l29, [], t0, n, 0)) rfl (fun _ => rfl) rfl ?_
      refine ih (k + 1) _ t0 (by first | decide | omega) g0 (fun c i h => e0 c i h) (fun i hi => ?_) l29_0 l29_1 (by rw [sgn_n hc9]; exact l29_4) hl29
      by_cases e9 : i = k
      · subst e9; rw [if_pos (by first | decide | omega), spl_n hc9]; exact kp
      · refine ((i0 i hi).trans ?_)
        by_cases c9 : i < k
        · rw [if_pos c9, if_pos (by first | decide | omega)]
        · rw [if_neg c9, if_neg (by first | decide | omega)]
theorem sc_stray257 (d n : Nat) {t0 : en_H} {w : Nat → Nat → Nat} {L : List Nat} {σ : Nat → Nat} {g : Nat} (g0 : ai_HG ah_G t0) (hC : CW t0 257 w L) (hw : WS w) (hb : sbd σ) (hS : SC t0 15 (w 0 2) (w 0 4) σ) (hg : g < 2147483648) : ∃ r, en_u (d + 3) 163 [gx_r 15, gx_r 257, .inr (.inl g)] t0 n = some r ∧ ∃ t', r = (some (.inr (.inl (sgn w g (w 0 2)))), t', n, 0) ∧ ai_HG ah_G t' ∧ (∀ c i, c ≠ 16 → ai_hv t' c i = ai_hv t0 c i) ∧ SC t' 15 (w 0 2) (w 0 4) (stray w g σ) := by
  refine en_u_ex (d := d + 2) rfl ?_
  show en_ex _ _ _ _ (0, [(0, gx_r 15), (1, gx_r 257), (2, .inr (.inl g))], [], t0, n, 0) _
  refine ex_go (S := (1, [(0, gx_r 15), (1, gx_r 257), (2, .inr (.inl g))], [.inr (.inl g)], t0, n, 0)) rfl (fun _ => rfl) rfl ?_
  refine ex_go (S := (3, [(4, .inr (.inl g)), (0, gx_r 15), (1, gx_r 257), (2, .inr (.inl g))], [], t0, n, 0)) rfl (fun _ => rfl) rfl ?_
  refine ex_go (S := (4, [(4, .inr (.inl g)), (0, gx_r 15), (1, gx_r 257), (2, .inr (.inl g))], [.inl 0], t0, n, 0)) rfl (fun _ => rfl) rfl ?_
  refine ex_go (S := (6, [(6, .inl 0), (4, .inr (.inl g)), (0, gx_r 15), (1, gx_r 257), (2, .inr (.inl g))], [], t0, n, 0)) rfl (fun _ => rfl) rfl ?_
  exact sb_l257 d n hC hw hb hg (fun t1 g1 e1 i1 => ⟨_, rfl, _, rfl, g1, e1, SC_stray hS hw.1.2.2.1 hw.1.2.2.2.2.1 e1 i1⟩) (w 0 2) 0 _ _ (by first | decide | omega) g0 (fun _ _ _ => rfl) (fun i hi => by rw [if_neg (Nat.not_lt_zero i)]; exact hS.2.1 i hi) rfl rfl rfl rfl
theorem ih_l257 (d n : Nat) {t0 : en_H} {w : Nat → Nat → Nat} {L : List Nat} {σ : Nat → Nat} {p0 : Nat} {Q : en_O → Prop} (g0 : ai_HG ah_G t0) (hC : CW t0 257 w L) (hw : WS w) (hS : SC t0 15 (w 0 2) (w 0 4) σ) (hb : sbd σ) (hp : p0 < 64) (hQ : Q (.inl (some (.inl (b2n (visn w σ p0 (w 0 2)))), t0, n, 0))) : ∀ j k cl, k + j = w 0 2 → visn w σ p0 k = false → en_ld cl 0 = some (gx_r 15) → en_ld cl 1 = some (gx_r 257) → en_ld cl 2 = some (.inl p0) → en_ld cl 3 = some (.inl k) → en_ex none (en_u d) (en_code 221) (fun _ => false) (2, cl, [], t0, n, 0) Q := by
  have hT := hw.1.2.2.1
  have kT := hC.1.2.2.2.1
  intro j
  induction j with
  | zero =>
    intro k cl hk hv l0 l1 l2 l3
    have hk : k = w 0 2 := by omega
    rw [hk] at hv
    rw [hv] at hQ
    refine gx_ld (i := 3) (d := 0) (v := .inl k) rfl (fun _ => rfl) l3 rfl rfl ?_
    refine gx_ld (i := 1) (d := 2) (v := gx_r 257) rfl (fun _ => rfl) l1 rfl rfl ?_
    refine gxo_ref (a := 257) (c := 260) rfl g0 rfl rfl rfl rfl rfl ?_
    refine gxo_get (a := 260) rfl g0 rfl rfl kT rfl ?_
    refine gx_2t (c := .ge) rfl (by first | decide | omega) (by first | decide | omega) (show w 0 2 ≤ k from by omega) rfl ?_
    refine ex_go (S := (54, cl, [.inl 0], t0, n, 0)) rfl (fun _ => rfl) rfl ?_
    refine ex_ret (r := (some (.inl 0), t0, n, 0)) rfl (fun _ => rfl) ?_
    exact hQ
  | succ j ih =>
    intro k cl hk hv l0 l1 l2 l3
    have kp := hS.2.1 k (by first | decide | omega)
    have hpl := hb.1 k (by first | decide | omega)
    have kk := (hC.2.2.2.1 k (by first | decide | omega)).1
    have hkd := (hw.2.2.1 k (by first | decide | omega)).1
    refine gx_ld (i := 3) (d := 0) (v := .inl k) rfl (fun _ => rfl) l3 rfl rfl ?_
    refine gx_ld (i := 1) (d := 2) (v := gx_r 257) rfl (fun _ => rfl) l1 rfl rfl ?_
    refine gxo_ref (a := 257) (c := 260) rfl g0 rfl rfl rfl rfl rfl ?_
    refine gxo_get (a := 260) rfl g0 rfl rfl kT rfl ?_
    refine gx_2f (c := .ge) rfl (by first | decide | omega) (by first | decide | omega) (show ¬ (w 0 2 ≤ k) from by omega) rfl ?_
    refine gx_ld (i := 1) (d := 2) (v := gx_r 257) rfl (fun _ => rfl) l1 rfl rfl ?_
    refine gxo_ref (a := 257) (c := 260) rfl g0 rfl rfl rfl rfl rfl ?_
    refine gxo_ref (a := 260) (c := 262) rfl g0 rfl rfl rfl rfl rfl ?_
    refine gx_ld (i := 3) (d := 0) (v := .inl k) rfl (fun _ => rfl) l3 rfl rfl ?_
    refine gx_ag (v := .inl (w 5 k)) (cb := fun c => Nat.beq c 0) rfl (fun _ => rfl) g0 rfl rfl kk (by first | decide | omega) rfl ?_
    refine gx_sto (i := 4) (d := 0) rfl (fun _ => rfl) rfl rfl (fun l21 hl21 ml21 => ?_)
    have l21_0 : en_ld l21 0 = some (gx_r 15) := ml21 0 _ l0 rfl
    have l21_1 : en_ld l21 1 = some (gx_r 257) := ml21 1 _ l1 rfl
    have l21_2 : en_ld l21 2 = some (.inl p0) := ml21 2 _ l2 rfl
    have l21_3 : en_ld l21 3 = some (.inl k) := ml21 3 _ l3 rfl
    refine gx_ld (i := 4) (d := 0) (v := .inl (w 5 k)) rfl (fun _ => rfl) hl21 rfl rfl ?_
    by_cases hc22 : w 5 k = 0
    · refine gx_1t (c := .eq) rfl (by first | decide | omega) hc22 rfl ?_
      refine gx_ld (i := 0) (d := 2) (v := gx_r 15) rfl (fun _ => rfl) l21_0 rfl rfl ?_
      refine gxo_ref (a := 15) (c := 16) rfl g0 rfl rfl rfl rfl rfl ?_
      refine gx_ld (i := 3) (d := 0) (v := .inl k) rfl (fun _ => rfl) l21_3 rfl rfl ?_
      refine gx_ag (v := .inl (σ (1 + k))) (cb := fun c => Nat.beq c 0) rfl (fun _ => rfl) g0 rfl rfl kp (by first | decide | omega) rfl ?_
      refine gx_ld (i := 2) (d := 0) (v := .inl p0) rfl (fun _ => rfl) l21_2 rfl rfl ?_
      by_cases hc23 : σ (1 + k) ≠ p0
      · refine gx_2t (c := .ne) rfl (by first | decide | omega) (by first | decide | omega) hc23 rfl ?_
        refine gx_incS (i := 3) (a := k) (x := 1) rfl (fun _ => rfl) l21_3 (by first | decide | omega) rfl (fun l24 hl24 ml24 => ?_)
        have l24_0 : en_ld l24 0 = some (gx_r 15) := ml24 0 _ l21_0 rfl
        have l24_1 : en_ld l24 1 = some (gx_r 257) := ml24 1 _ l21_1 rfl
        have l24_2 : en_ld l24 2 = some (.inl p0) := ml24 2 _ l21_2 rfl
        have l24_4 : en_ld l24 4 = some (.inl (w 5 k)) := ml24 4 _ hl21 rfl
        refine ex_go (S := (2, l24, [], t0, n, 0)) rfl (fun _ => rfl) rfl ?_
        exact ih (k + 1) _ (by first | decide | omega) (visn_n hv (by first | decide | omega)) l24_0 l24_1 l24_2 hl24
      · refine gx_2f (c := .ne) rfl (by first | decide | omega) (by first | decide | omega) hc23 rfl ?_
        refine ex_go (S := (46, l21, [.inl 1], t0, n, 0)) rfl (fun _ => rfl) rfl ?_
        refine ex_ret (r := (some (.inl 1), t0, n, 0)) rfl (fun _ => rfl) ?_
        have h8 := visn_mono (visn_y (w := w) (σ := σ) (p := p0) (k := k) (Or.inr ⟨by omega, by omega⟩)) j
        rw [show k + 1 + j = w 0 2 by omega] at h8
        rw [h8] at hQ
        exact hQ
    · refine gx_1f (c := .eq) rfl (by first | decide | omega) hc22 rfl ?_
      refine gx_ld (i := 4) (d := 0) (v := .inl (w 5 k)) rfl (fun _ => rfl) hl21 rfl rfl ?_
      refine ex_go (S := (32, l21, [.inl 1, .inl (w 5 k)], t0, n, 0)) rfl (fun _ => rfl) rfl ?_
      by_cases hc25 : w 5 k ≠ 1
      · refine gx_2t (c := .ne) rfl (by first | decide | omega) (by first | decide | omega) hc25 rfl ?_
        refine gx_incS (i := 3) (a := k) (x := 1) rfl (fun _ => rfl) l21_3 (by first | decide | omega) rfl (fun l26 hl26 ml26 => ?_)
        have l26_0 : en_ld l26 0 = some (gx_r 15) := ml26 0 _ l21_0 rfl
        have l26_1 : en_ld l26 1 = some (gx_r 257) := ml26 1 _ l21_1 rfl
        have l26_2 : en_ld l26 2 = some (.inl p0) := ml26 2 _ l21_2 rfl
        have l26_4 : en_ld l26 4 = some (.inl (w 5 k)) := ml26 4 _ hl21 rfl
        refine ex_go (S := (2, l26, [], t0, n, 0)) rfl (fun _ => rfl) rfl ?_
        exact ih (k + 1) _ (by first | decide | omega) (visn_n hv (by first | decide | omega)) l26_0 l26_1 l26_2 hl26
      · refine gx_2f (c := .ne) rfl (by first | decide | omega) (by first | decide | omega) hc25 rfl ?_
        refine gx_ld (i := 0) (d := 2) (v := gx_r 15) rfl (fun _ => rfl) l21_0 rfl rfl ?_
        refine gxo_ref (a := 15) (c := 16) rfl g0 rfl rfl rfl rfl rfl ?_
        refine gx_ld (i := 3) (d := 0) (v := .inl k) rfl (fun _ => rfl) l21_3 rfl rfl ?_
        refine gx_ag (v := .inl (σ (1 + k))) (cb := fun c => Nat.beq c 0) rfl (fun _ => rfl) g0 rfl rfl kp (by first | decide | omega) rfl ?_
        refine gx_ld (i := 2) (d := 0) (v := .inl p0) rfl (fun _ => rfl) l21_2 rfl rfl ?_
        by_cases hc27 : σ (1 + k) ≠ p0
        · refine gx_2t (c := .ne) rfl (by first | decide | omega) (by first | decide | omega) hc27 rfl ?_
          refine gx_incS (i := 3) (a := k) (x := 1) rfl (fun _ => rfl) l21_3 (by first | decide | omega) rfl (fun l28 hl28 ml28 => ?_)
          have l28_0 : en_ld l28 0 = some (gx_r 15) := ml28 0 _ l21_0 rfl
          have l28_1 : en_ld l28 1 = some (gx_r 257) := ml28 1 _ l21_1 rfl
          have l28_2 : en_ld l28 2 = some (.inl p0) := ml28 2 _ l21_2 rfl
          have l28_4 : en_ld l28 4 = some (.inl (w 5 k)) := ml28 4 _ hl21 rfl
          refine ex_go (S := (2, l28, [], t0, n, 0)) rfl (fun _ => rfl) rfl ?_
          exact ih (k + 1) _ (by first | decide | omega) (visn_n hv (by first | decide | omega)) l28_0 l28_1 l28_2 hl28
        · refine gx_2f (c := .ne) rfl (by first | decide | omega) (by first | decide | omega) hc27 rfl ?_
          refine ex_go (S := (46, l21, [.inl 1], t0, n, 0)) rfl (fun _ => rfl) rfl ?_
          refine ex_ret (r := (some (.inl 1), t0, n, 0)) rfl (fun _ => rfl) ?_
          have h8 := visn_mono (visn_y (w := w) (σ := σ) (p := p0) (k := k) (Or.inr ⟨by omega, by omega⟩)) j
          rw [show k + 1 + j = w 0 2 by omega] at h8
          rw [h8] at hQ
          exact hQ
theorem sc_inhab257 (d n : Nat) {t0 : en_H} {w : Nat → Nat → Nat} {L : List Nat} {σ : Nat → Nat} {p0 : Nat} (g0 : ai_HG ah_G t0) (hC : CW t0 257 w L) (hw : WS w) (hS : SC t0 15 (w 0 2) (w 0 4) σ) (hb : sbd σ) (hp : p0 < 64) : ∃ r, en_u (d + 1) 221 [gx_r 15, gx_r 257, .inl p0] t0 n = some r ∧ r = (some (.inl (b2n (visn w σ p0 (w 0 2)))), t0, n, 0) := by
  refine en_u_ex rfl ?_
  show en_ex _ _ _ _ (0, [(0, gx_r 15), (1, gx_r 257), (2, .inl p0)], [], t0, n, 0) _
  refine ex_go (S := (1, [(0, gx_r 15), (1, gx_r 257), (2, .inl p0)], [.inl 0], t0, n, 0)) rfl (fun _ => rfl) rfl ?_
  refine ex_go (S := (2, [(3, .inl 0), (0, gx_r 15), (1, gx_r 257), (2, .inl p0)], [], t0, n, 0)) rfl (fun _ => rfl) rfl ?_
  exact ih_l257 d n g0 hC hw hS hb hp ⟨_, rfl, rfl⟩ (w 0 2) 0 _ (by first | decide | omega) rfl rfl rfl rfl rfl
theorem bv_l257 (d n : Nat) {t0 : en_H} {w : Nat → Nat → Nat} {L : List Nat} {σ : Nat → Nat} {Q : en_O → Prop} (g0 : ai_HG ah_G t0) (hC : CW t0 257 w L) (hw : WS w) (hS : SC t0 15 (w 0 2) (w 0 4) σ) (hb : sbd σ) (hQ : Q (.inl (some (.inl (bearn w σ (w 0 2))), t0, n, 0))) : ∀ j k cl, k + j = w 0 2 → en_ld cl 0 = some (gx_r 15) → en_ld cl 1 = some (gx_r 257) → en_ld cl 2 = some (.inl (bearn w σ k)) → en_ld cl 3 = some (.inl k) → en_ex none (en_u (d + 1)) (en_code 165) (fun _ => false) (4, cl, [], t0, n, 0) Q := by
  have hT := hw.1.2.2.1
  have kT := hC.1.2.2.2.1
  intro j
  induction j with
  | zero =>
    intro k cl hk l0 l1 l2 l3
    have hk : k = w 0 2 := by omega
    rw [hk] at l2
    refine gx_ld (i := 3) (d := 0) (v := .inl k) rfl (fun _ => rfl) l3 rfl rfl ?_
    refine gx_ld (i := 1) (d := 2) (v := gx_r 257) rfl (fun _ => rfl) l1 rfl rfl ?_
    refine gxo_ref (a := 257) (c := 260) rfl g0 rfl rfl rfl rfl rfl ?_
    refine gxo_get (a := 260) rfl g0 rfl rfl kT rfl ?_
    refine gx_2t (c := .ge) rfl (by first | decide | omega) (by first | decide | omega) (show w 0 2 ≤ k from by omega) rfl ?_
    refine gx_ld (i := 2) (d := 0) (v := .inl (bearn w σ (w 0 2))) rfl (fun _ => rfl) l2 rfl rfl ?_
    refine ex_ret (r := (some (.inl (bearn w σ (w 0 2))), t0, n, 0)) rfl (fun _ => rfl) ?_
    exact hQ
  | succ j ih =>
    intro k cl hk l0 l1 l2 l3
    have kp := hS.2.1 k (by first | decide | omega)
    have hpl := hb.1 k (by first | decide | omega)
    have hbk := bearn_le (w := w) (σ := σ) k
    have kk := (hC.2.2.2.1 k (by first | decide | omega)).1
    have hkd := (hw.2.2.1 k (by first | decide | omega)).1
    refine gx_ld (i := 3) (d := 0) (v := .inl k) rfl (fun _ => rfl) l3 rfl rfl ?_
    refine gx_ld (i := 1) (d := 2) (v := gx_r 257) rfl (fun _ => rfl) l1 rfl rfl ?_
    refine gxo_ref (a := 257) (c := 260) rfl g0 rfl rfl rfl rfl rfl ?_
    refine gxo_get (a := 260) rfl g0 rfl rfl kT rfl ?_
    refine gx_2f (c := .ge) rfl (by first | decide | omega) (by first | decide | omega) (show ¬ (w 0 2 ≤ k) from by omega) rfl ?_
    refine gx_ld (i := 1) (d := 2) (v := gx_r 257) rfl (fun _ => rfl) l1 rfl rfl ?_
    refine gxo_ref (a := 257) (c := 260) rfl g0 rfl rfl rfl rfl rfl ?_
    refine gxo_ref (a := 260) (c := 262) rfl g0 rfl rfl rfl rfl rfl ?_
    refine gx_ld (i := 3) (d := 0) (v := .inl k) rfl (fun _ => rfl) l3 rfl rfl ?_
    refine gx_ag (v := .inl (w 5 k)) (cb := fun c => Nat.beq c 0) rfl (fun _ => rfl) g0 rfl rfl kk (by first | decide | omega) rfl ?_
    refine ex_go (S := (25, cl, [.inl 2, .inl (w 5 k)], t0, n, 0)) rfl (fun _ => rfl) rfl ?_
    by_cases hc9 : w 5 k = 2
    · refine gx_2f (c := .ne) rfl (by first | decide | omega) (by first | decide | omega) (show ¬ (w 5 k ≠ 2) from by omega) rfl ?_
      refine gx_ld (i := 0) (d := 2) (v := gx_r 15) rfl (fun _ => rfl) l0 rfl rfl ?_
      refine gx_ld (i := 1) (d := 2) (v := gx_r 257) rfl (fun _ => rfl) l1 rfl rfl ?_
      refine gx_ld (i := 0) (d := 2) (v := gx_r 15) rfl (fun _ => rfl) l0 rfl rfl ?_
      refine gxo_ref (a := 15) (c := 16) rfl g0 rfl rfl rfl rfl rfl ?_
      refine gx_ld (i := 3) (d := 0) (v := .inl k) rfl (fun _ => rfl) l3 rfl rfl ?_
      refine gx_ag (v := .inl (σ (1 + k))) (cb := fun c => Nat.beq c 0) rfl (fun _ => rfl) g0 rfl rfl kp (by first | decide | omega) rfl ?_
      obtain ⟨_, r21, rfl⟩ := sc_inhab257 d n (p0 := σ (1 + k)) g0 hC hw hS hb (by first | decide | omega)
      refine gx_callo (a := 15) rfl rfl g0 rfl rfl rfl r21 rfl ?_
      show en_ex _ _ _ _ (39, cl, [.inl (b2n (visn w σ (σ (1 + k)) (w 0 2)))], t0, n, 0) _
      cases hv9 : visn w σ (σ (1 + k)) (w 0 2)
      · show en_ex _ _ _ _ (39, cl, [.inl 0], t0, n, 0) _
        refine ex_go (S := (45, cl, [], t0, n, 0)) rfl (fun _ => rfl) rfl ?_
        refine gx_incS (i := 3) (a := k) (x := 1) rfl (fun _ => rfl) l3 (by first | decide | omega) rfl (fun l22 hl22 ml22 => ?_)
        have l22_0 : en_ld l22 0 = some (gx_r 15) := ml22 0 _ l0 rfl
        have l22_1 : en_ld l22 1 = some (gx_r 257) := ml22 1 _ l1 rfl
        have l22_2 : en_ld l22 2 = some (.inl (bearn w σ k)) := ml22 2 _ l2 rfl
        refine ex_go (S := (4, l22, [], t0, n, 0)) rfl (fun _ => rfl) rfl ?_
        exact ih (k + 1) _ (by first | decide | omega) l22_0 l22_1 (by rw [bearn_y hc9, hv9]; exact l22_2) hl22
      · show en_ex _ _ _ _ (39, cl, [.inl 1], t0, n, 0) _
        refine ex_go (S := (42, cl, [], t0, n, 0)) rfl (fun _ => rfl) rfl ?_
        refine gx_incS (i := 2) (a := bearn w σ k) (x := 1) rfl (fun _ => rfl) l2 (by first | decide | omega) rfl (fun l23 hl23 ml23 => ?_)
        have l23_0 : en_ld l23 0 = some (gx_r 15) := ml23 0 _ l0 rfl
        have l23_1 : en_ld l23 1 = some (gx_r 257) := ml23 1 _ l1 rfl
        have l23_3 : en_ld l23 3 = some (.inl k) := ml23 3 _ l3 rfl
        refine gx_incS (i := 3) (a := k) (x := 1) rfl (fun _ => rfl) l23_3 (by first | decide | omega) rfl (fun l24 hl24 ml24 => ?_)
        have l24_0 : en_ld l24 0 = some (gx_r 15) := ml24 0 _ l23_0 rfl
        have l24_1 : en_ld l24 1 = some (gx_r 257) := ml24 1 _ l23_1 rfl
        have l24_2 : en_ld l24 2 = some (.inl ((bearn w σ k) + 1)) := ml24 2 _ hl23 rfl
        refine ex_go (S := (4, l24, [], t0, n, 0)) rfl (fun _ => rfl) rfl ?_
        exact ih (k + 1) _ (by first | decide | omega) l24_0 l24_1 (by rw [bearn_y hc9, hv9]; exact l24_2) hl24
    · refine gx_2t (c := .ne) rfl (by first | decide | omega) (by first | decide | omega) (show w 5 k ≠ 2 from by omega) rfl ?_
      refine gx_incS (i := 3) (a := k) (x := 1) rfl (fun _ => rfl) l3 (by first | decide | omega) rfl (fun l25 hl25 ml25 => ?_)
      have l25_0 : en_ld l25 0 = some (gx_r 15) := ml25 0 _ l0 rfl
      have l25_1 : en_ld l25 1 = some (gx_r 257) := ml25 1 _ l1 rfl
      have l25_2 : en_ld l25 2 = some (.inl (bearn w σ k)) := ml25 2 _ l2 rfl
      refine ex_go (S := (4, l25, [], t0, n, 0)) rfl (fun _ => rfl) rfl ?_
      exact ih (k + 1) _ (by first | decide | omega) l25_0 l25_1 (by rw [bearn_n hc9]; exact l25_2) hl25
theorem sc_bears257 (d n : Nat) {t0 : en_H} {w : Nat → Nat → Nat} {L : List Nat} {σ : Nat → Nat} (g0 : ai_HG ah_G t0) (hC : CW t0 257 w L) (hw : WS w) (hS : SC t0 15 (w 0 2) (w 0 4) σ) (hb : sbd σ) : ∃ r, en_u (d + 2) 165 [gx_r 15, gx_r 257] t0 n = some r ∧ r = (some (.inl (bearn w σ (w 0 2))), t0, n, 0) := by
  refine en_u_ex (d := d + 1) rfl ?_
  show en_ex _ _ _ _ (0, [(0, gx_r 15), (1, gx_r 257)], [], t0, n, 0) _
  refine ex_go (S := (1, [(0, gx_r 15), (1, gx_r 257)], [.inl 0], t0, n, 0)) rfl (fun _ => rfl) rfl ?_
  refine ex_go (S := (2, [(2, .inl 0), (0, gx_r 15), (1, gx_r 257)], [], t0, n, 0)) rfl (fun _ => rfl) rfl ?_
  refine ex_go (S := (3, [(2, .inl 0), (0, gx_r 15), (1, gx_r 257)], [.inl 0], t0, n, 0)) rfl (fun _ => rfl) rfl ?_
  refine ex_go (S := (4, [(3, .inl 0), (2, .inl 0), (0, gx_r 15), (1, gx_r 257)], [], t0, n, 0)) rfl (fun _ => rfl) rfl ?_
  exact bv_l257 d n g0 hC hw hS hb ⟨_, rfl, rfl⟩ (w 0 2) 0 _ (by first | decide | omega) rfl rfl rfl rfl
theorem hh_l257 (d n : Nat) {t0 : en_H} {w : Nat → Nat → Nat} {L : List Nat} {σ : Nat → Nat} {Q : en_O → Prop} (g0 : ai_HG ah_G t0) (hC : CW t0 257 w L) (hw : WS w) (hS : SC t0 15 (w 0 2) (w 0 4) σ) (hb : sbd σ) (hQ : Q (.inl (some (.inl (b2n (hun σ (w 0 4)))), t0, n, 0))) : ∀ j k cl, k + j = w 0 4 → hun σ k = false → en_ld cl 0 = some (gx_r 15) → en_ld cl 1 = some (gx_r 257) → en_ld cl 2 = some (.inl k) → en_ex none (en_u d) (en_code 166) (fun _ => false) (2, cl, [], t0, n, 0) Q := by
  have hK := hw.1.2.2.2.2.1
  have kK := hC.1.2.2.2.2.2
  intro j
  induction j with
  | zero =>
    intro k cl hk hv l0 l1 l2
    have hk : k = w 0 4 := by omega
    rw [hk] at hv
    rw [hv] at hQ
    refine gx_ld (i := 2) (d := 0) (v := .inl k) rfl (fun _ => rfl) l2 rfl rfl ?_
    refine gx_ld (i := 1) (d := 2) (v := gx_r 257) rfl (fun _ => rfl) l1 rfl rfl ?_
    refine gxo_ref (a := 257) (c := 272) rfl g0 rfl rfl rfl rfl rfl ?_
    refine gxo_get (a := 272) rfl g0 rfl rfl kK rfl ?_
    refine gx_2t (c := .ge) rfl (by first | decide | omega) (by first | decide | omega) (show w 0 4 ≤ k from by omega) rfl ?_
    refine ex_go (S := (31, cl, [.inl 0], t0, n, 0)) rfl (fun _ => rfl) rfl ?_
    refine ex_ret (r := (some (.inl 0), t0, n, 0)) rfl (fun _ => rfl) ?_
    exact hQ
  | succ j ih =>
    intro k cl hk hv l0 l1 l2
    have kp := (hS.2.2 k (by first | decide | omega)).1
    have hbi : σ (7 + k) ≤ 19998 := by
      rcases (show k = 0 ∨ k = 1 by omega) with rfl | rfl
      · exact hb.2.1.1
      · exact hb.2.1.2
    refine gx_ld (i := 2) (d := 0) (v := .inl k) rfl (fun _ => rfl) l2 rfl rfl ?_
    refine gx_ld (i := 1) (d := 2) (v := gx_r 257) rfl (fun _ => rfl) l1 rfl rfl ?_
    refine gxo_ref (a := 257) (c := 272) rfl g0 rfl rfl rfl rfl rfl ?_
    refine gxo_get (a := 272) rfl g0 rfl rfl kK rfl ?_
    refine gx_2f (c := .ge) rfl (by first | decide | omega) (by first | decide | omega) (show ¬ (w 0 4 ≤ k) from by omega) rfl ?_
    refine gx_ld (i := 0) (d := 2) (v := gx_r 15) rfl (fun _ => rfl) l0 rfl rfl ?_
    refine gxo_ref (a := 15) (c := 17) rfl g0 rfl rfl rfl rfl rfl ?_
    refine gx_ld (i := 2) (d := 0) (v := .inl k) rfl (fun _ => rfl) l2 rfl rfl ?_
    refine gx_ag (v := .inl (σ (7 + k))) (cb := fun c => Nat.beq c 0) rfl (fun _ => rfl) g0 rfl rfl kp (by first | decide | omega) rfl ?_
    by_cases hc21 : σ (7 + k) ≠ 0
    · refine gx_1t (c := .ne) rfl (by first | decide | omega) hc21 rfl ?_
      refine gx_incS (i := 2) (a := k) (x := 1) rfl (fun _ => rfl) l2 (by first | decide | omega) rfl (fun l22 hl22 ml22 => ?_)
      have l22_0 : en_ld l22 0 = some (gx_r 15) := ml22 0 _ l0 rfl
      have l22_1 : en_ld l22 1 = some (gx_r 257) := ml22 1 _ l1 rfl
      refine ex_go (S := (2, l22, [], t0, n, 0)) rfl (fun _ => rfl) rfl ?_
      exact ih (k + 1) _ (by first | decide | omega) (hun_n hv (by first | decide | omega)) l22_0 l22_1 hl22
    · refine gx_1f (c := .ne) rfl (by first | decide | omega) hc21 rfl ?_
      refine ex_go (S := (23, cl, [.inl 1], t0, n, 0)) rfl (fun _ => rfl) rfl ?_
      refine ex_ret (r := (some (.inl 1), t0, n, 0)) rfl (fun _ => rfl) ?_
      have h8 := hun_mono (hun_y (σ := σ) (k := k) (Or.inr (by first | decide | omega))) j
      rw [show k + 1 + j = w 0 4 by omega] at h8
      rw [h8] at hQ
      exact hQ
theorem sc_hungry257 (d n : Nat) {t0 : en_H} {w : Nat → Nat → Nat} {L : List Nat} {σ : Nat → Nat} (g0 : ai_HG ah_G t0) (hC : CW t0 257 w L) (hw : WS w) (hS : SC t0 15 (w 0 2) (w 0 4) σ) (hb : sbd σ) : ∃ r, en_u (d + 1) 166 [gx_r 15, gx_r 257] t0 n = some r ∧ r = (some (.inl (b2n (hun σ (w 0 4)))), t0, n, 0) := by
  refine en_u_ex rfl ?_
  show en_ex _ _ _ _ (0, [(0, gx_r 15), (1, gx_r 257)], [], t0, n, 0) _
  refine ex_go (S := (1, [(0, gx_r 15), (1, gx_r 257)], [.inl 0], t0, n, 0)) rfl (fun _ => rfl) rfl ?_
  refine ex_go (S := (2, [(2, .inl 0), (0, gx_r 15), (1, gx_r 257)], [], t0, n, 0)) rfl (fun _ => rfl) rfl ?_
  exact hh_l257 d n g0 hC hw hS hb ⟨_, rfl, rfl⟩ (w 0 4) 0 _ (by first | decide | omega) rfl rfl rfl rfl
theorem mc_l257 (d n : Nat) {tb : en_H} {w : Nat → Nat → Nat} {L : List Nat} {σ : Nat → Nat} {g st wh : Nat} {Q : en_O → Prop} (hC : CW tb 257 w L) (hw : WS w) (k10 : ai_hv tb 0 10 = some (gx_r 257)) (hb : sbd σ) (hg : g < 2147483648) (hst : st ≤ 100) (hwh : wh ≤ 2) (hQ : ∀ t1 v0, ai_HG ah_G t1 → (∀ c i, ¬ (c = 297 ∨ (15 ≤ c ∧ c ≤ 21)) → ai_hv t1 c i = ai_hv tb c i) → v0 = mans w L σ g st wh → Q (.inl (some (.inl v0), t1, n, 0))) : ∀ j k cl t0, k + j = st → ai_HG ah_G t0 → (∀ c i, ¬ (c = 297 ∨ (15 ≤ c ∧ c ≤ 21)) → ai_hv t0 c i = ai_hv tb c i) → SC t0 15 (w 0 2) (w 0 4) (mos w L σ g k).1 → en_ld cl 0 = some (gx_r 0) → en_ld cl 2 = some (.inl st) → en_ld cl 3 = some (.inl wh) → en_ld cl 4 = some (.inr (.inl (mos w L σ g k).2)) → en_ld cl 6 = some (.inl (mov w L σ g k)) → en_ld cl 7 = some (.inl (moe w L σ g k)) → en_ld cl 8 = some (.inl (moh w L σ g k)) → en_ld cl 9 = some (.inl k) → en_ex none (en_u (d + 4)) (en_code 81) (fun _ => false) (59, cl, [], t0, n, 0) Q := by
  have hT := hw.1.2.2.1
  intro j
  induction j with
  | zero =>
    intro k cl t0 hk g0 e0 i0 l0 l2 l3 l4 l6 l7 l8 l9
    obtain ⟨⟨hbk, hgk⟩, hm4, hm5, hm6⟩ := mo_bd (L := L) hw hb hg k
    have hk : k = st := by omega
    subst hk
    refine gx_ld (i := 9) (d := 0) (v := .inl k) rfl (fun _ => rfl) l9 rfl rfl ?_
    refine gx_ld (i := 2) (d := 0) (v := .inl k) rfl (fun _ => rfl) l2 rfl rfl ?_
    refine gx_2t (c := .ge) rfl (by first | decide | omega) (by first | decide | omega) (show k ≤ k from by omega) rfl ?_
    refine gx_ld (i := 3) (d := 0) (v := .inl wh) rfl (fun _ => rfl) l3 rfl rfl ?_
    by_cases hc21 : wh ≠ 0
    · refine gx_1t (c := .ne) rfl (by first | decide | omega) hc21 rfl ?_
      refine gx_ld (i := 3) (d := 0) (v := .inl wh) rfl (fun _ => rfl) l3 rfl rfl ?_
      refine ex_go (S := (151, cl, [.inl 1, .inl wh], t0, n, 0)) rfl (fun _ => rfl) rfl ?_
      by_cases hc22 : wh ≠ 1
      · refine gx_2t (c := .ne) rfl (by first | decide | omega) (by first | decide | omega) hc22 rfl ?_
        refine gx_ld (i := 8) (d := 0) (v := .inl (moh w L σ g k)) rfl (fun _ => rfl) l8 rfl rfl ?_
        refine ex_ret (r := (some (.inl (moh w L σ g k)), t0, n, 0)) rfl (fun _ => rfl) ?_
        exact hQ _ _ g0 e0 (by unfold mans; rw [if_neg (by first | decide | omega), if_neg (by first | decide | omega)])
      · refine gx_2f (c := .ne) rfl (by first | decide | omega) (by first | decide | omega) hc22 rfl ?_
        refine gx_ld (i := 7) (d := 0) (v := .inl (moe w L σ g k)) rfl (fun _ => rfl) l7 rfl rfl ?_
        refine ex_go (S := (161, cl, [.inl (moe w L σ g k)], t0, n, 0)) rfl (fun _ => rfl) rfl ?_
        refine ex_ret (r := (some (.inl (moe w L σ g k)), t0, n, 0)) rfl (fun _ => rfl) ?_
        exact hQ _ _ g0 e0 (by unfold mans; rw [if_neg (by first | decide | omega), if_pos (by first | decide | omega)])
    · refine gx_1f (c := .ne) rfl (by first | decide | omega) hc21 rfl ?_
      refine gx_ld (i := 6) (d := 0) (v := .inl (mov w L σ g k)) rfl (fun _ => rfl) l6 rfl rfl ?_
      refine ex_ret (r := (some (.inl (mov w L σ g k)), t0, n, 0)) rfl (fun _ => rfl) ?_
      exact hQ _ _ g0 e0 (by unfold mans; rw [if_pos (by first | decide | omega)])
  | succ j ih =>
    intro k cl t0 hk g0 e0 i0 l0 l2 l3 l4 l6 l7 l8 l9
    obtain ⟨⟨hbk, hgk⟩, hm4, hm5, hm6⟩ := mo_bd (L := L) hw hb hg k
    refine gx_ld (i := 9) (d := 0) (v := .inl k) rfl (fun _ => rfl) l9 rfl rfl ?_
    refine gx_ld (i := 2) (d := 0) (v := .inl st) rfl (fun _ => rfl) l2 rfl rfl ?_
    refine gx_2f (c := .ge) rfl (by first | decide | omega) (by first | decide | omega) (show ¬ (st ≤ k) from by omega) rfl ?_
    refine gx_ld (i := 0) (d := 2) (v := gx_r 0) rfl (fun _ => rfl) l0 rfl rfl ?_
    refine gxo_ref (a := 0) (c := 15) rfl g0 rfl rfl rfl rfl rfl ?_
    refine gx_ld (i := 0) (d := 2) (v := gx_r 0) rfl (fun _ => rfl) l0 rfl rfl ?_
    refine gxo_get (a := 0) rfl g0 rfl rfl ((e0 0 10 (by first | decide | omega)).trans k10) rfl ?_
    refine gx_ld (i := 4) (d := 1) (v := .inr (.inl ((mos w L σ g k).2))) rfl (fun _ => rfl) l4 rfl rfl ?_
    obtain ⟨_, r121, t121, rfl, g121, e121, y121⟩ := sc_stray257 (d + 1) n (σ := (mos w L σ g k).1) (g := (mos w L σ g k).2) g0 (CW_keep hC (fun c i h => e0 c i (by first | decide | omega))) hw hbk i0 hgk
    have hg2 := sgn_lt (w := w) hgk (w 0 2)
    refine gx_callo (a := 15) rfl rfl g0 rfl rfl rfl r121 rfl ?_
    have k22 : ai_hv t121 0 10 = some (gx_r 257) := (e121 0 10 (by first | decide | omega)).trans ((e0 0 10 (by first | decide | omega)).trans k10)
    show en_ex _ _ _ _ (78, cl, [.inr (.inl (sgn w (mos w L σ g k).2 (w 0 2)))], t121, n, 0) _
    refine gx_sto (i := 4) (d := 1) rfl (fun _ => rfl) rfl rfl (fun l23 hl23 ml23 => ?_)
    have l23_0 : en_ld l23 0 = some (gx_r 0) := ml23 0 _ l0 rfl
    have l23_2 : en_ld l23 2 = some (.inl st) := ml23 2 _ l2 rfl
    have l23_3 : en_ld l23 3 = some (.inl wh) := ml23 3 _ l3 rfl
    have l23_6 : en_ld l23 6 = some (.inl (mov w L σ g k)) := ml23 6 _ l6 rfl
    have l23_7 : en_ld l23 7 = some (.inl (moe w L σ g k)) := ml23 7 _ l7 rfl
    have l23_8 : en_ld l23 8 = some (.inl (moh w L σ g k)) := ml23 8 _ l8 rfl
    have l23_9 : en_ld l23 9 = some (.inl k) := ml23 9 _ l9 rfl
    refine gx_ld (i := 7) (d := 0) (v := .inl (moe w L σ g k)) rfl (fun _ => rfl) l23_7 rfl rfl ?_
    refine gx_ld (i := 0) (d := 2) (v := gx_r 0) rfl (fun _ => rfl) l23_0 rfl rfl ?_
    refine gxo_ref (a := 0) (c := 15) rfl g121 rfl rfl rfl rfl rfl ?_
    refine gx_ld (i := 0) (d := 2) (v := gx_r 0) rfl (fun _ => rfl) l23_0 rfl rfl ?_
    refine gxo_get (a := 0) rfl g121 rfl rfl k22 rfl ?_
    obtain ⟨_, r124, t124, rfl, g124, e124, y124⟩ := sc_pass15_257 d n (σ := (stray w (mos w L σ g k).2 (mos w L σ g k).1)) g121 (CW_keep hC (fun c i h => (e121 c i (by first | decide | omega)).trans (e0 c i (by first | decide | omega)))) hw (sbd_stray hw hbk) y121
    have hea := eaten_le (w := w) (L := L) (σ := (stray w (mos w L σ g k).2 (mos w L σ g k).1))
    have hb2 := (mo_bd (L := L) hw hb hg (k + 1)).1.1
    refine gx_callo (a := 15) rfl rfl g121 rfl rfl rfl r124 rfl ?_
    have k25 : ai_hv t124 0 10 = some (gx_r 257) := (e124 0 10 (by first | decide | omega)).trans k22
    show en_ex _ _ _ _ (93, l23, [.inl (eaten w L (stray w (mos w L σ g k).2 (mos w L σ g k).1)), .inl (moe w L σ g k)], t124, n, 0) _
    refine ex_iadd rfl (by first | decide | omega) rfl ?_
    refine gx_sto (i := 7) (d := 0) rfl (fun _ => rfl) rfl rfl (fun l26 hl26 ml26 => ?_)
    have l26_0 : en_ld l26 0 = some (gx_r 0) := ml26 0 _ l23_0 rfl
    have l26_2 : en_ld l26 2 = some (.inl st) := ml26 2 _ l23_2 rfl
    have l26_3 : en_ld l26 3 = some (.inl wh) := ml26 3 _ l23_3 rfl
    have l26_6 : en_ld l26 6 = some (.inl (mov w L σ g k)) := ml26 6 _ l23_6 rfl
    have l26_8 : en_ld l26 8 = some (.inl (moh w L σ g k)) := ml26 8 _ l23_8 rfl
    have l26_9 : en_ld l26 9 = some (.inl k) := ml26 9 _ l23_9 rfl
    have l26_4 : en_ld l26 4 = some (.inr (.inl (sgn w (mos w L σ g k).2 (w 0 2)))) := ml26 4 _ hl23 rfl
    refine gx_ld (i := 6) (d := 0) (v := .inl (mov w L σ g k)) rfl (fun _ => rfl) l26_6 rfl rfl ?_
    refine gx_ld (i := 0) (d := 2) (v := gx_r 0) rfl (fun _ => rfl) l26_0 rfl rfl ?_
    refine gxo_ref (a := 0) (c := 15) rfl g124 rfl rfl rfl rfl rfl ?_
    refine gx_ld (i := 0) (d := 2) (v := gx_r 0) rfl (fun _ => rfl) l26_0 rfl rfl ?_
    refine gxo_get (a := 0) rfl g124 rfl rfl k25 rfl ?_
    obtain ⟨_, r27, rfl⟩ := sc_bears257 (d + 2) n (σ := (mos w L σ g (k + 1)).1) g124 (CW_keep hC (fun c i h => (e124 c i (by first | decide | omega)).trans ((e121 c i (by first | decide | omega)).trans (e0 c i (by first | decide | omega))))) hw y124 hb2
    have hbn := bearn_le (w := w) (σ := (mos w L σ g (k + 1)).1) (w 0 2)
    refine gx_callo (a := 15) rfl rfl g124 rfl rfl rfl r27 rfl ?_
    show en_ex _ _ _ _ (109, l26, [.inl (bearn w (mos w L σ g (k + 1)).1 (w 0 2)), .inl (mov w L σ g k)], t124, n, 0) _
    refine ex_iadd rfl (by first | decide | omega) rfl ?_
    refine gx_sto (i := 6) (d := 0) rfl (fun _ => rfl) rfl rfl (fun l28 hl28 ml28 => ?_)
    have l28_0 : en_ld l28 0 = some (gx_r 0) := ml28 0 _ l26_0 rfl
    have l28_2 : en_ld l28 2 = some (.inl st) := ml28 2 _ l26_2 rfl
    have l28_3 : en_ld l28 3 = some (.inl wh) := ml28 3 _ l26_3 rfl
    have l28_8 : en_ld l28 8 = some (.inl (moh w L σ g k)) := ml28 8 _ l26_8 rfl
    have l28_9 : en_ld l28 9 = some (.inl k) := ml28 9 _ l26_9 rfl
    have l28_4 : en_ld l28 4 = some (.inr (.inl (sgn w (mos w L σ g k).2 (w 0 2)))) := ml28 4 _ l26_4 rfl
    have l28_7 : en_ld l28 7 = some (.inl ((moe w L σ g k) + (eaten w L (stray w (mos w L σ g k).2 (mos w L σ g k).1)))) := ml28 7 _ hl26 rfl
    refine gx_ld (i := 8) (d := 0) (v := .inl (moh w L σ g k)) rfl (fun _ => rfl) l28_8 rfl rfl ?_
    refine gx_ld (i := 0) (d := 2) (v := gx_r 0) rfl (fun _ => rfl) l28_0 rfl rfl ?_
    refine gxo_ref (a := 0) (c := 15) rfl g124 rfl rfl rfl rfl rfl ?_
    refine gx_ld (i := 0) (d := 2) (v := gx_r 0) rfl (fun _ => rfl) l28_0 rfl rfl ?_
    refine gxo_get (a := 0) rfl g124 rfl rfl k25 rfl ?_
    obtain ⟨_, r29, rfl⟩ := sc_hungry257 (d + 3) n (σ := (mos w L σ g (k + 1)).1) g124 (CW_keep hC (fun c i h => (e124 c i (by first | decide | omega)).trans ((e121 c i (by first | decide | omega)).trans (e0 c i (by first | decide | omega))))) hw y124 hb2
    refine gx_callo (a := 15) rfl rfl g124 rfl rfl rfl r29 rfl ?_
    show en_ex _ _ _ _ (125, l28, [.inl (b2n (hun (mos w L σ g (k + 1)).1 (w 0 4))), .inl (moh w L σ g k)], t124, n, 0) _
    cases hh9 : hun (mos w L σ g (k + 1)).1 (w 0 4)
    · show en_ex _ _ _ _ (125, l28, [.inl 0, .inl (moh w L σ g k)], t124, n, 0) _
      refine ex_go (S := (132, l28, [.inl (moh w L σ g k)], t124, n, 0)) rfl (fun _ => rfl) rfl ?_
      refine ex_go (S := (133, l28, [.inl 0, .inl (moh w L σ g k)], t124, n, 0)) rfl (fun _ => rfl) rfl ?_
      refine ex_iadd rfl (by first | decide | omega) rfl ?_
      refine gx_sto (i := 8) (d := 0) rfl (fun _ => rfl) rfl rfl (fun l30 hl30 ml30 => ?_)
      have l30_0 : en_ld l30 0 = some (gx_r 0) := ml30 0 _ l28_0 rfl
      have l30_2 : en_ld l30 2 = some (.inl st) := ml30 2 _ l28_2 rfl
      have l30_3 : en_ld l30 3 = some (.inl wh) := ml30 3 _ l28_3 rfl
      have l30_9 : en_ld l30 9 = some (.inl k) := ml30 9 _ l28_9 rfl
      have l30_4 : en_ld l30 4 = some (.inr (.inl (sgn w (mos w L σ g k).2 (w 0 2)))) := ml30 4 _ l28_4 rfl
      have l30_7 : en_ld l30 7 = some (.inl ((moe w L σ g k) + (eaten w L (stray w (mos w L σ g k).2 (mos w L σ g k).1)))) := ml30 7 _ l28_7 rfl
      have l30_6 : en_ld l30 6 = some (.inl ((mov w L σ g k) + (bearn w (mos w L σ g (k + 1)).1 (w 0 2)))) := ml30 6 _ hl28 rfl
      refine gx_incS (i := 9) (a := k) (x := 1) rfl (fun _ => rfl) l30_9 (by first | decide | omega) rfl (fun l31 hl31 ml31 => ?_)
      have l31_0 : en_ld l31 0 = some (gx_r 0) := ml31 0 _ l30_0 rfl
      have l31_2 : en_ld l31 2 = some (.inl st) := ml31 2 _ l30_2 rfl
      have l31_3 : en_ld l31 3 = some (.inl wh) := ml31 3 _ l30_3 rfl
      have l31_4 : en_ld l31 4 = some (.inr (.inl (sgn w (mos w L σ g k).2 (w 0 2)))) := ml31 4 _ l30_4 rfl
      have l31_7 : en_ld l31 7 = some (.inl ((moe w L σ g k) + (eaten w L (stray w (mos w L σ g k).2 (mos w L σ g k).1)))) := ml31 7 _ l30_7 rfl
      have l31_6 : en_ld l31 6 = some (.inl ((mov w L σ g k) + (bearn w (mos w L σ g (k + 1)).1 (w 0 2)))) := ml31 6 _ l30_6 rfl
      have l31_8 : en_ld l31 8 = some (.inl ((moh w L σ g k) + 0)) := ml31 8 _ hl30 rfl
      refine ex_go (S := (59, l31, [], t124, n, 0)) rfl (fun _ => rfl) rfl ?_
      have e4 : mov w L σ g (k + 1) = (mov w L σ g k) + (bearn w (mos w L σ g (k + 1)).1 (w 0 2)) := rfl
      have e5 : moe w L σ g (k + 1) = (moe w L σ g k) + (eaten w L (stray w (mos w L σ g k).2 (mos w L σ g k).1)) := rfl
      have e6 : moh w L σ g (k + 1) = (moh w L σ g k) + 0 := by show moh w L σ g k + b2n (hun (mos w L σ g (k + 1)).1 (w 0 4)) = _; rw [hh9]; rfl
      exact ih (k + 1) _ _ (by first | decide | omega) g124 (fun c i h => (e124 c i (by first | decide | omega)).trans ((e121 c i (by first | decide | omega)).trans (e0 c i h))) y124 l31_0 l31_2 l31_3 l31_4 (by rw [e4]; exact l31_6) (by rw [e5]; exact l31_7) (by rw [e6]; exact l31_8) hl31
    · show en_ex _ _ _ _ (125, l28, [.inl 1, .inl (moh w L σ g k)], t124, n, 0) _
      refine ex_go (S := (128, l28, [.inl (moh w L σ g k)], t124, n, 0)) rfl (fun _ => rfl) rfl ?_
      refine ex_go (S := (129, l28, [.inl 1, .inl (moh w L σ g k)], t124, n, 0)) rfl (fun _ => rfl) rfl ?_
      refine ex_go (S := (133, l28, [.inl 1, .inl (moh w L σ g k)], t124, n, 0)) rfl (fun _ => rfl) rfl ?_
      refine ex_iadd rfl (by first | decide | omega) rfl ?_
      refine gx_sto (i := 8) (d := 0) rfl (fun _ => rfl) rfl rfl (fun l32 hl32 ml32 => ?_)
      have l32_0 : en_ld l32 0 = some (gx_r 0) := ml32 0 _ l28_0 rfl
      have l32_2 : en_ld l32 2 = some (.inl st) := ml32 2 _ l28_2 rfl
      have l32_3 : en_ld l32 3 = some (.inl wh) := ml32 3 _ l28_3 rfl
      have l32_9 : en_ld l32 9 = some (.inl k) := ml32 9 _ l28_9 rfl
      have l32_4 : en_ld l32 4 = some (.inr (.inl (sgn w (mos w L σ g k).2 (w 0 2)))) := ml32 4 _ l28_4 rfl
      have l32_7 : en_ld l32 7 = some (.inl ((moe w L σ g k) + (eaten w L (stray w (mos w L σ g k).2 (mos w L σ g k).1)))) := ml32 7 _ l28_7 rfl
      have l32_6 : en_ld l32 6 = some (.inl ((mov w L σ g k) + (bearn w (mos w L σ g (k + 1)).1 (w 0 2)))) := ml32 6 _ hl28 rfl
      refine gx_incS (i := 9) (a := k) (x := 1) rfl (fun _ => rfl) l32_9 (by first | decide | omega) rfl (fun l33 hl33 ml33 => ?_)
      have l33_0 : en_ld l33 0 = some (gx_r 0) := ml33 0 _ l32_0 rfl
      have l33_2 : en_ld l33 2 = some (.inl st) := ml33 2 _ l32_2 rfl
      have l33_3 : en_ld l33 3 = some (.inl wh) := ml33 3 _ l32_3 rfl
      have l33_4 : en_ld l33 4 = some (.inr (.inl (sgn w (mos w L σ g k).2 (w 0 2)))) := ml33 4 _ l32_4 rfl
      have l33_7 : en_ld l33 7 = some (.inl ((moe w L σ g k) + (eaten w L (stray w (mos w L σ g k).2 (mos w L σ g k).1)))) := ml33 7 _ l32_7 rfl
      have l33_6 : en_ld l33 6 = some (.inl ((mov w L σ g k) + (bearn w (mos w L σ g (k + 1)).1 (w 0 2)))) := ml33 6 _ l32_6 rfl
      have l33_8 : en_ld l33 8 = some (.inl ((moh w L σ g k) + 1)) := ml33 8 _ hl32 rfl
      refine ex_go (S := (59, l33, [], t124, n, 0)) rfl (fun _ => rfl) rfl ?_
      have e4 : mov w L σ g (k + 1) = (mov w L σ g k) + (bearn w (mos w L σ g (k + 1)).1 (w 0 2)) := rfl
      have e5 : moe w L σ g (k + 1) = (moe w L σ g k) + (eaten w L (stray w (mos w L σ g k).2 (mos w L σ g k).1)) := rfl
      have e6 : moh w L σ g (k + 1) = (moh w L σ g k) + 1 := by show moh w L σ g k + b2n (hun (mos w L σ g (k + 1)).1 (w 0 4)) = _; rw [hh9]; rfl
      exact ih (k + 1) _ _ (by first | decide | omega) g124 (fun c i h => (e124 c i (by first | decide | omega)).trans ((e121 c i (by first | decide | omega)).trans (e0 c i h))) y124 l33_0 l33_2 l33_3 l33_4 (by rw [e4]; exact l33_6) (by rw [e5]; exact l33_7) (by rw [e6]; exact l33_8) hl33
theorem sc_months257 (d n : Nat) {t0 : en_H} {w : Nat → Nat → Nat} {L : List Nat} {σ : Nat → Nat} {x y z : Nat} (g0 : ai_HG ah_G t0) (hC : CW t0 257 w L) (hw : WS w) (k10 : ai_hv t0 0 10 = some (gx_r 257)) (hS : SC t0 8 (w 0 2) (w 0 4) σ) (hb : sbd σ) (hx : x < 4294967296) (hy : y < 4294967296) (hz : z < 4294967296) : ∃ r, en_u (d + 5) 81 [gx_r 0, .inl x, .inl y, .inl z] t0 n = some r ∧ ∃ v t', r = (some (.inl v), t', n, 0) ∧ ai_HG ah_G t' ∧ (∀ c i, ¬ (c = 297 ∨ (15 ≤ c ∧ c ≤ 21)) → ai_hv t' c i = ai_hv t0 c i) ∧ ((x ≤ 9999 ∧ (1 ≤ y ∧ y ≤ 100) ∧ z ≤ 2) → v = mans w L σ x y z) ∧ (¬ (x ≤ 9999 ∧ (1 ≤ y ∧ y ≤ 100) ∧ z ≤ 2) → v = 4294967295) := by
  refine en_u_ex (d := d + 4) rfl ?_
  show en_ex _ _ _ _ (0, [(0, gx_r 0), (1, .inl x), (2, .inl y), (3, .inl z)], [], t0, n, 0) _
  refine ex_go (S := (1, [(0, gx_r 0), (1, .inl x), (2, .inl y), (3, .inl z)], [.inl x], t0, n, 0)) rfl (fun _ => rfl) rfl ?_
  refine ex_go (S := (2, [(0, gx_r 0), (1, .inl x), (2, .inl y), (3, .inl z)], [.inl 0, .inl x], t0, n, 0)) rfl (fun _ => rfl) rfl ?_
  refine ex_go (S := (5, [(0, gx_r 0), (1, .inl x), (2, .inl y), (3, .inl z)], [.inl 9999, .inl 0, .inl x], t0, n, 0)) rfl (fun _ => rfl) rfl ?_
  obtain ⟨_, r21, b22, rfl, b22b, q23⟩ := pz_isWithin (d + 3) n (t0 := t0) (x := x) (lo := 0) (hi := 9999) (by first | decide | omega) (by first | decide | omega) (by first | decide | omega)
  refine ex_stat rfl rfl rfl rfl rfl r21 (Nat.le_refl _) rfl ?_
  show en_ex _ _ _ _ (8, [(0, gx_r 0), (1, .inl x), (2, .inl y), (3, .inl z)], [.inl b22], t0, n, 0) _
  by_cases hc24 : b22 = 0
  · refine gx_1t (c := .eq) rfl (by first | decide | omega) hc24 rfl ?_
    refine ex_go (S := (31, [(0, gx_r 0), (1, .inl x), (2, .inl y), (3, .inl z)], [.inl 4294967295], t0, n, 0)) rfl (fun _ => rfl) rfl ?_
    refine ex_ret (r := (some (.inl 4294967295), t0, n, 0)) rfl (fun _ => rfl) ?_
    exact ⟨_, rfl, _, _, rfl, g0, (fun _ _ _ => rfl), (fun c9 => by omega), (fun _ => rfl)⟩
  · refine gx_1f (c := .eq) rfl (by first | decide | omega) hc24 rfl ?_
    refine ex_go (S := (12, [(0, gx_r 0), (1, .inl x), (2, .inl y), (3, .inl z)], [.inl y], t0, n, 0)) rfl (fun _ => rfl) rfl ?_
    refine ex_go (S := (13, [(0, gx_r 0), (1, .inl x), (2, .inl y), (3, .inl z)], [.inl 1, .inl y], t0, n, 0)) rfl (fun _ => rfl) rfl ?_
    refine ex_go (S := (15, [(0, gx_r 0), (1, .inl x), (2, .inl y), (3, .inl z)], [.inl 100, .inl 1, .inl y], t0, n, 0)) rfl (fun _ => rfl) rfl ?_
    obtain ⟨_, r25, b26, rfl, b26b, q27⟩ := pz_isWithin (d + 3) n (t0 := t0) (x := y) (lo := 1) (hi := 100) (by first | decide | omega) (by first | decide | omega) (by first | decide | omega)
    refine ex_stat rfl rfl rfl rfl rfl r25 (Nat.le_refl _) rfl ?_
    show en_ex _ _ _ _ (18, [(0, gx_r 0), (1, .inl x), (2, .inl y), (3, .inl z)], [.inl b26], t0, n, 0) _
    by_cases hc28 : b26 = 0
    · refine gx_1t (c := .eq) rfl (by first | decide | omega) hc28 rfl ?_
      refine ex_go (S := (31, [(0, gx_r 0), (1, .inl x), (2, .inl y), (3, .inl z)], [.inl 4294967295], t0, n, 0)) rfl (fun _ => rfl) rfl ?_
      refine ex_ret (r := (some (.inl 4294967295), t0, n, 0)) rfl (fun _ => rfl) ?_
      exact ⟨_, rfl, _, _, rfl, g0, (fun _ _ _ => rfl), (fun c9 => by omega), (fun _ => rfl)⟩
    · refine gx_1f (c := .eq) rfl (by first | decide | omega) hc28 rfl ?_
      refine ex_go (S := (22, [(0, gx_r 0), (1, .inl x), (2, .inl y), (3, .inl z)], [.inl z], t0, n, 0)) rfl (fun _ => rfl) rfl ?_
      refine ex_go (S := (23, [(0, gx_r 0), (1, .inl x), (2, .inl y), (3, .inl z)], [.inl 0, .inl z], t0, n, 0)) rfl (fun _ => rfl) rfl ?_
      refine ex_go (S := (24, [(0, gx_r 0), (1, .inl x), (2, .inl y), (3, .inl z)], [.inl 2, .inl 0, .inl z], t0, n, 0)) rfl (fun _ => rfl) rfl ?_
      obtain ⟨_, r29, b30, rfl, b30b, q31⟩ := pz_isWithin (d + 3) n (t0 := t0) (x := z) (lo := 0) (hi := 2) (by first | decide | omega) (by first | decide | omega) (by first | decide | omega)
      refine ex_stat rfl rfl rfl rfl rfl r29 (Nat.le_refl _) rfl ?_
      show en_ex _ _ _ _ (27, [(0, gx_r 0), (1, .inl x), (2, .inl y), (3, .inl z)], [.inl b30], t0, n, 0) _
      by_cases hc32 : b30 ≠ 0
      · refine gx_1t (c := .ne) rfl (by first | decide | omega) hc32 rfl ?_
        refine ex_go (S := (33, [(0, gx_r 0), (1, .inl x), (2, .inl y), (3, .inl z)], [gx_r 0], t0, n, 0)) rfl (fun _ => rfl) rfl ?_
        refine gxo_ref (a := 0) (c := 15) rfl g0 rfl rfl rfl rfl rfl ?_
        refine ex_go (S := (37, [(0, gx_r 0), (1, .inl x), (2, .inl y), (3, .inl z)], [gx_r 0, gx_r 15], t0, n, 0)) rfl (fun _ => rfl) rfl ?_
        refine gxo_ref (a := 0) (c := 8) rfl g0 rfl rfl rfl rfl rfl ?_
        obtain ⟨_, r133, t133, rfl, g133, e133, ya, yb, yc⟩ := sc_take (d + 3) n (A := 15) (B := 8) g0 StA_15 StA_8 (by unfold StD; omega)
        have hs9 := SC_take hS hw.1.2.2.1 hw.1.2.2.2.2.1 ya yb yc
        refine gx_callo (a := 15) rfl rfl g0 rfl rfl rfl r133 rfl ?_
        have k34 : ai_hv t133 0 10 = some (gx_r 257) := (e133 0 10 (by first | decide | omega)).trans k10
        show en_ex _ _ _ _ (43, [(0, gx_r 0), (1, .inl x), (2, .inl y), (3, .inl z)], [], t133, n, 0) _
        refine ex_go (S := (44, [(0, gx_r 0), (1, .inl x), (2, .inl y), (3, .inl z)], [.inl x], t133, n, 0)) rfl (fun _ => rfl) rfl ?_
        refine ex_go (S := (45, [(0, gx_r 0), (1, .inl x), (2, .inl y), (3, .inl z)], [.inr (.inl ((nI x).toInt64.toBitVec.toNat))], t133, n, 0)) rfl (fun _ => rfl) rfl ?_
        rw [sp_i2l (show x < 2147483648 from by omega)]
        refine ex_go (S := (47, [(4, .inr (.inl x)), (0, gx_r 0), (1, .inl x), (2, .inl y), (3, .inl z)], [], t133, n, 0)) rfl (fun _ => rfl) rfl ?_
        refine ex_go (S := (48, [(4, .inr (.inl x)), (0, gx_r 0), (1, .inl x), (2, .inl y), (3, .inl z)], [.inl 0], t133, n, 0)) rfl (fun _ => rfl) rfl ?_
        refine ex_go (S := (50, [(6, .inl 0), (4, .inr (.inl x)), (0, gx_r 0), (1, .inl x), (2, .inl y), (3, .inl z)], [], t133, n, 0)) rfl (fun _ => rfl) rfl ?_
        refine ex_go (S := (51, [(6, .inl 0), (4, .inr (.inl x)), (0, gx_r 0), (1, .inl x), (2, .inl y), (3, .inl z)], [.inl 0], t133, n, 0)) rfl (fun _ => rfl) rfl ?_
        refine ex_go (S := (53, [(7, .inl 0), (6, .inl 0), (4, .inr (.inl x)), (0, gx_r 0), (1, .inl x), (2, .inl y), (3, .inl z)], [], t133, n, 0)) rfl (fun _ => rfl) rfl ?_
        refine ex_go (S := (54, [(7, .inl 0), (6, .inl 0), (4, .inr (.inl x)), (0, gx_r 0), (1, .inl x), (2, .inl y), (3, .inl z)], [.inl 0], t133, n, 0)) rfl (fun _ => rfl) rfl ?_
        refine ex_go (S := (56, [(8, .inl 0), (7, .inl 0), (6, .inl 0), (4, .inr (.inl x)), (0, gx_r 0), (1, .inl x), (2, .inl y), (3, .inl z)], [], t133, n, 0)) rfl (fun _ => rfl) rfl ?_
        refine ex_go (S := (57, [(8, .inl 0), (7, .inl 0), (6, .inl 0), (4, .inr (.inl x)), (0, gx_r 0), (1, .inl x), (2, .inl y), (3, .inl z)], [.inl 0], t133, n, 0)) rfl (fun _ => rfl) rfl ?_
        refine ex_go (S := (59, [(9, .inl 0), (8, .inl 0), (7, .inl 0), (6, .inl 0), (4, .inr (.inl x)), (0, gx_r 0), (1, .inl x), (2, .inl y), (3, .inl z)], [], t133, n, 0)) rfl (fun _ => rfl) rfl ?_
        exact mc_l257 d n (tb := t133) (σ := σ) (g := x) (st := y) (wh := z) (CW_keep hC (fun c i h => e133 c i (by first | decide | omega))) hw ((e133 0 10 (by first | decide | omega)).trans (k10)) hb (by first | decide | omega) (by first | decide | omega) (by first | decide | omega) (fun t1 v0 g1 e1 hv => ⟨_, rfl, _, _, rfl, g1, (fun c i h => (e1 c i h).trans (e133 c i (by first | decide | omega))), (fun _ => hv), (fun c9 => absurd ⟨by omega, ⟨by omega, by omega⟩, by omega⟩ c9)⟩) y 0 _ _ (by first | decide | omega) g133 (fun _ _ _ => rfl) hs9 rfl rfl rfl rfl rfl rfl rfl rfl
      · refine gx_1f (c := .ne) rfl (by first | decide | omega) hc32 rfl ?_
        refine ex_go (S := (31, [(0, gx_r 0), (1, .inl x), (2, .inl y), (3, .inl z)], [.inl 4294967295], t0, n, 0)) rfl (fun _ => rfl) rfl ?_
        refine ex_ret (r := (some (.inl 4294967295), t0, n, 0)) rfl (fun _ => rfl) ?_
        exact ⟨_, rfl, _, _, rfl, g0, (fun _ _ _ => rfl), (fun c9 => by omega), (fun _ => rfl)⟩
theorem zs_months191 {n B x y z : Nat} {t : en_H} (g0 : ai_HG ah_G t) (hP : SPk 191 t) (hZ : ZS B t) (hx : x < 4294967296) (hy : y < 4294967296) (hz : z < 4294967296) : zs_A 81 82 [gx_r 0, .inl x, .inl y, .inl z] [gx_r 383, .inl x, .inl y, .inl z] t n := by
  obtain ⟨k10, w, L, hR, hC, hX⟩ := hP
  obtain ⟨T, K, σ, u, τ, F, μ, q, v, ⟨hT, hK⟩, hS, hS', hB5, -⟩ := hZ
  have eT := wv_one hT (hR.1 2 (by decide))
  have eK := wv_one hK (hR.1 4 (by decide))
  subst eT eK
  have hw := WS_of hR
  have hb := zs_sbd g0 hS.1
  obtain ⟨_, r1, z1, t1, rfl, g1, e1, a1, a2⟩ := sc_months191 55 n g0 hC hw k10 hS'.1 hb hx hy hz
  obtain ⟨_, r2, z2, t2, rfl, b1, b2⟩ := sr_months 54 n g1 (RW_keep hR (fun i hi => e1 389 i (by first | decide | omega)) (fun c i hc _ => e1 c i (by first | decide | omega))) (blk_keep hS.1 (fun j hj => e1 399 _ (by first | decide | omega))) hb hx hy hz
  have e : z2 = z1 := by
    by_cases c : x ≤ 9999 ∧ (1 ≤ y ∧ y ≤ 100) ∧ z ≤ 2
    · rw [a1 c, b1 c]
    · rw [a2 c, b2 c]
  subst e
  exact ⟨_, _, _, r1, r2⟩
theorem zs_months257 {n B x y z : Nat} {t : en_H} (g0 : ai_HG ah_G t) (hP : SPk 257 t) (hZ : ZS B t) (hx : x < 4294967296) (hy : y < 4294967296) (hz : z < 4294967296) : zs_A 81 82 [gx_r 0, .inl x, .inl y, .inl z] [gx_r 383, .inl x, .inl y, .inl z] t n := by
  obtain ⟨k10, w, L, hR, hC, hX⟩ := hP
  obtain ⟨T, K, σ, u, τ, F, μ, q, v, ⟨hT, hK⟩, hS, hS', hB5, -⟩ := hZ
  have eT := wv_one hT (hR.1 2 (by decide))
  have eK := wv_one hK (hR.1 4 (by decide))
  subst eT eK
  have hw := WS_of hR
  have hb := zs_sbd g0 hS.1
  obtain ⟨_, r1, z1, t1, rfl, g1, e1, a1, a2⟩ := sc_months257 55 n g0 hC hw k10 hS'.1 hb hx hy hz
  obtain ⟨_, r2, z2, t2, rfl, b1, b2⟩ := sr_months 54 n g1 (RW_keep hR (fun i hi => e1 389 i (by first | decide | omega)) (fun c i hc _ => e1 c i (by first | decide | omega))) (blk_keep hS.1 (fun j hj => e1 399 _ (by first | decide | omega))) hb hx hy hz
  have e : z2 = z1 := by
    by_cases c : x ≤ 9999 ∧ (1 ≤ y ∧ y ≤ 100) ∧ z ≤ 2
    · rw [a1 c, b1 c]
    · rw [a2 c, b2 c]
  subst e
  exact ⟨_, _, _, r1, r2⟩
end SSW
