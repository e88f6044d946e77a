section SPH
/-! ### the words of the language: their letters, and how either side keeps them -/
noncomputable def wd_ls : List (List Nat) := [[7, 18, 9, 4], [4, 18, 9, 6, 20], [20, 8, 9, 14, 7], [1, 20], [12, 5, 1, 4], [18, 15, 21, 14, 4], [6, 18, 15, 13], [6, 15, 18], [3, 18, 5, 23], [13, 5, 14], [2, 9, 19, 3, 21, 9, 20], [16, 1, 3, 5], [7, 1, 16], [15, 16, 5, 14, 19], [14, 9, 16, 19], [19, 9, 7, 14], [15, 6, 20, 5, 14], [12, 15, 1, 4], [23, 15, 18, 20, 8], [20, 1, 11, 5, 19], [5, 1, 20], [12, 15, 15, 11], [2, 18, 5, 1, 11], [8, 1, 21, 12], [12, 5, 14, 4], [8, 15, 13, 5], [14, 15, 18, 20, 8], [5, 1, 19, 20], [19, 15, 21, 20, 8], [23, 5, 19, 20], [19, 20, 9, 12, 12], [19, 8, 9, 16], [8, 21, 20], [2, 5, 1, 18], [3, 1, 9, 18, 14], [14, 15, 20], [1, 14, 4], [15, 18], [3, 18, 5, 23, 13, 5, 14], [19, 20, 5, 16], [15, 21, 20], [4, 1, 25]]
noncomputable def wd_at (w j : Nat) : Nat := (wd_ls.getD w []).getD j 0
noncomputable def wd_ln (w : Nat) : Nat := (wd_ls.getD w []).length
noncomputable def wd_37s : List Nat := [379550, 8420961, 37901290, 57, 614722, 34523964, 329128, 8787, 176809, 17996, 5791338551, 811933, 9636, 28930245, 722074, 975001, 28443912, 628412, 43890888, 37549136, 6902, 628937, 4666969, 407382, 615203, 426245, 27023439, 255357, 36398351, 1172587, 36634896, 973708, 11749, 108206, 5686137, 19741, 1891, 573, 8955924273, 989988, 21332, 5538]
noncomputable def wd_37 (w : Nat) : Nat := wd_37s.getD w 0
noncomputable def wd_ok (w : Nat) : Bool := (sp_dv (wd_at w) 32 (wd_ln w) == wd_key w) && ((sp_dv (wd_at w) 37 (wd_ln w) == wd_37 w) && ((wd_ln w ≤ 8 : Bool) && (List.range (wd_ln w)).all (fun j => (1 ≤ wd_at w j : Bool) && (wd_at w j < 32 : Bool))))
theorem wd_oks : (List.range 42).all wd_ok = true := by decide +kernel
theorem wd_at_ok {w : Nat} (h : w < 42) : sp_dv (wd_at w) 32 (wd_ln w) = wd_key w ∧ sp_dv (wd_at w) 37 (wd_ln w) = wd_37 w ∧ wd_ln w ≤ 8 ∧ ∀ j, j < wd_ln w → 1 ≤ wd_at w j ∧ wd_at w j < 32 := by
  have h1 := List.all_eq_true.mp wd_oks w (List.mem_range.mpr h)
  unfold wd_ok at h1
  simp only [Bool.and_eq_true, beq_iff_eq, decide_eq_true_eq, List.all_eq_true, List.mem_range] at h1
  exact ⟨h1.1, h1.2.1, h1.2.2.1, h1.2.2.2⟩
/-- the token that begins at p is the word w: read to either base -/
theorem wd_two {S : Nat → Nat} {p n w : Nat} (hw : w < 42) (hl : ∀ j, j < n → sp_le (S (p + j)) = true) : sp_hv S p 37 96 n = wd_37 w ↔ sp_hv S p 32 96 n = wd_key w := by
  obtain ⟨h1, h2, h3, h4⟩ := wd_at_ok hw
  rw [sp_hv_dv, sp_hv_dv, ← h1, ← h2]
  exact sp_dv_two (fun j hj => by have := sp_le_iff.mp (hl j hj); omega) h4
/-- two tokens are the same name: read to either base -/
theorem nm_two {S S' : Nat → Nat} {p q n k : Nat} (hl : ∀ j, j < n → sp_le (S (p + j)) = true) (hk : ∀ j, j < k → sp_le (S' (q + j)) = true) : sp_hv S p 37 96 n = sp_hv S' q 37 96 k ↔ sp_hv S p 32 96 n = sp_hv S' q 32 96 k := by
  rw [sp_hv_dv, sp_hv_dv, sp_hv_dv, sp_hv_dv]
  exact sp_dv_two (fun j hj => by have := sp_le_iff.mp (hl j hj); omega) (fun j hj => by have := sp_le_iff.mp (hk j hj); omega)
end SPH
