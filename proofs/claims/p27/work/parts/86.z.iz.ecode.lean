section SEC
/-! ### the codes of an E, operators behind their parts: as the class writes them, ints -/
noncomputable def sp_oc (S : Nat → Nat) (m N a : Nat) : Nat := cif (sp_wd S m N a 36) 4294967294 (cif (sp_wd S m N a 37) 4294967293 (cif (sp_sg S m N a 60) 4294967292 (cif (sp_sg S m N a 61) 4294967291 (cif (sp_sg S m N a 43) 4294967290 (cif (sp_sg S m N a 45) 4294967289 4294967288)))))
noncomputable def sp_tk (S : Nat → Nat) (m N a : Nat) : Nat := cif (sp_kt S m N a = 2) (sp_nv S m a) (cif (sp_wd S m N a 38) 4294967287 (cif (sp_wd S m N a 40) 4294967285 4294967286))
noncomputable def ec (S : Nat → Nat) (m N fh : Nat) : Nat → Nat → Nat → Nat × Nat → List Nat
  | 0, _, _, _ => []
  | k + 1, y, d, p => cif (p.2 ≠ 0) [] (cif (y < 4) (ec S m N fh k (y + 1) d p ++ ec S m N fh k (y + 5) d (ev S m N fh k (y + 1) d p)) (cif (y = 4)
      (cif (sp_wd S m N p.1 35) (ec S m N fh k 4 (d + 1) (p.1 + 1, 0) ++ [4294967295]) (cif (sp_sg S m N p.1 40) (ec S m N fh k 0 (d + 1) (p.1 + 1, 0)) [sp_tk S m N p.1]))
      (cif (sp_op S m N (y - 5) p.1) (cif (y = 6) (ec S m N fh k (y - 4) d (p.1 + 1, 0) ++ [sp_oc S m N p.1]) (ec S m N fh k (y - 4) d (p.1 + 1, 0) ++ ([sp_oc S m N p.1] ++ ec S m N fh k y d (ev S m N fh k (y - 4) d (p.1 + 1, 0))))) [])))
noncomputable def Ec (S : Nat → Nat) (m N fh y d : Nat) (p : Nat × Nat) (L : List Nat) : Prop := ∃ k0, ∀ k, k0 ≤ k → ec S m N fh k y d p = L
variable {S : Nat → Nat} {m N fh : Nat}
theorem sp_wdk {a w : Nat} (h : sp_wd S m N a w) : sp_kt S m N a = 1 := (if_pos h.1).trans h.2.1
theorem Ec_det {y d : Nat} {p : Nat × Nat} {L L' : List Nat} (h : Ec S m N fh y d p L) (h' : Ec S m N fh y d p L') : L = L' := by
  obtain ⟨k, hk⟩ := h
  obtain ⟨k', hk'⟩ := h'
  exact (hk (k + k') (by first | decide | omega)).symm.trans (hk' (k + k') (by first | decide | omega))
theorem Ec_k {y d : Nat} {p : Nat × Nat} {L : List Nat} (k0 : Nat) (h : ∀ k, k0 ≤ k → ec S m N fh (k + 1) y d p = L) : Ec S m N fh y d p L :=
  ⟨k0 + 1, fun k hk => by
    obtain ⟨j, rfl⟩ : ∃ j, k = j + 1 := ⟨k - 1, by omega⟩
    exact h j (by first | decide | omega)⟩
theorem Ec_lv {y d a : Nat} {q : Nat × Nat} {L1 L2 : List Nat} (hy : y < 4) (h1 : Ev S m N fh (y + 1) d (a, 0) q) (c1 : Ec S m N fh (y + 1) d (a, 0) L1) (c2 : Ec S m N fh (y + 5) d q L2) : Ec S m N fh y d (a, 0) (L1 ++ L2) := by
  obtain ⟨k1, h1⟩ := h1
  obtain ⟨k2, c1⟩ := c1
  obtain ⟨k3, c2⟩ := c2
  refine Ec_k (k1 + k2 + k3) (fun k hk => ?_)
  refine (cif_f (by simp)).trans ((cif_t hy).trans ?_)
  rw [h1 k (by first | decide | omega), c1 k (by first | decide | omega), c2 k (by first | decide | omega)]
theorem Ec_stop {y d a : Nat} (hy : 5 ≤ y) (h : ¬ sp_op S m N (y - 5) a) : Ec S m N fh y d (a, 0) [] :=
  Ec_k 0 (fun k _ => (cif_f (by simp)).trans ((cif_f (by first | decide | omega)).trans ((cif_f (by first | decide | omega)).trans (cif_f h))))
theorem Ec_once {d a : Nat} {L : List Nat} (h : sp_op S m N 1 a) (c1 : Ec S m N fh 2 d (a + 1, 0) L) : Ec S m N fh 6 d (a, 0) (L ++ [sp_oc S m N a]) := by
  obtain ⟨k1, c1⟩ := c1
  refine Ec_k k1 (fun k hk => ?_)
  refine (cif_f (by simp)).trans ((cif_f (by first | decide | omega)).trans ((cif_f (by first | decide | omega)).trans ((cif_t h).trans ((cif_t rfl).trans ?_))))
  show ec S m N fh k 2 d (a + 1, 0) ++ [sp_oc S m N a] = _
  rw [c1 k hk]
theorem Ec_more {y d a : Nat} {q : Nat × Nat} {L1 L2 : List Nat} (hy : 5 ≤ y) (hy6 : y ≠ 6) (h : sp_op S m N (y - 5) a) (h1 : Ev S m N fh (y - 4) d (a + 1, 0) q) (c1 : Ec S m N fh (y - 4) d (a + 1, 0) L1) (c2 : Ec S m N fh y d q L2) : Ec S m N fh y d (a, 0) (L1 ++ ([sp_oc S m N a] ++ L2)) := by
  obtain ⟨k1, h1⟩ := h1
  obtain ⟨k2, c1⟩ := c1
  obtain ⟨k3, c2⟩ := c2
  refine Ec_k (k1 + k2 + k3) (fun k hk => ?_)
  refine (cif_f (by simp)).trans ((cif_f (by first | decide | omega)).trans ((cif_f (by first | decide | omega)).trans ((cif_t h).trans ((cif_f hy6).trans ?_))))
  show ec S m N fh k (y - 4) d (a + 1, 0) ++ ([sp_oc S m N a] ++ ec S m N fh k y d (ev S m N fh k (y - 4) d (a + 1, 0))) = _
  rw [h1 k (by first | decide | omega), c1 k (by first | decide | omega), c2 k (by first | decide | omega)]
theorem Ec_not {d a : Nat} {L : List Nat} (h : sp_wd S m N a 35) (c1 : Ec S m N fh 4 (d + 1) (a + 1, 0) L) : Ec S m N fh 4 d (a, 0) (L ++ [4294967295]) := by
  obtain ⟨k1, c1⟩ := c1
  refine Ec_k k1 (fun k hk => ?_)
  refine (cif_f (by simp)).trans ((cif_f (by first | decide | omega)).trans ((cif_t rfl).trans ((cif_t h).trans ?_)))
  show ec S m N fh k 4 (d + 1) (a + 1, 0) ++ [4294967295] = _
  rw [c1 k hk]
theorem Ec_in {d a : Nat} {L : List Nat} (hw : ¬ sp_wd S m N a 35) (h : sp_sg S m N a 40) (c1 : Ec S m N fh 0 (d + 1) (a + 1, 0) L) : Ec S m N fh 4 d (a, 0) L := by
  obtain ⟨k1, c1⟩ := c1
  refine Ec_k k1 (fun k hk => ?_)
  refine (cif_f (by simp)).trans ((cif_f (by first | decide | omega)).trans ((cif_t rfl).trans ((cif_f hw).trans ((cif_t h).trans ?_))))
  exact c1 k hk
theorem Ec_one {d a : Nat} (hw : ¬ sp_wd S m N a 35) (h : ¬ sp_sg S m N a 40) : Ec S m N fh 4 d (a, 0) [sp_tk S m N a] :=
  Ec_k 0 (fun k _ => (cif_f (by simp)).trans ((cif_f (by first | decide | omega)).trans ((cif_t rfl).trans ((cif_f hw).trans (cif_f h)))))
end SEC
