section SPW
variable {S : Nat → Nat} {m N fh lw LC : Nat}
/-- what a law's reading may touch: the tape's place and fault, the law's own cells -/
noncomputable def cG (LC : Nat) (t t' : en_H) : Prop := ∀ c i, ¬ ((c = 1 ∧ (i = 1 ∨ i = 8)) ∨ (c = LC ∧ i = 2) ∨ c = LC + 2) → ai_hv t' c i = ai_hv t c i
/-- the codes L more behind the first s -/
noncomputable def cLs (t t' : en_H) (LC s : Nat) (L : List Nat) : Prop := ai_hv t' LC 2 = some (.inl (s + L.length)) ∧ (∀ j, j < s → ai_hv t' (LC + 2) j = ai_hv t (LC + 2) j) ∧ ∀ j, j < L.length → ai_hv t' (LC + 2) (s + j) = some (.inl ((L[j]?).getD 0))
theorem cLs_nil {t t' : en_H} {LC s : Nat} (h : ai_hv t LC 2 = some (.inl s)) (e1 : ai_hv t' LC 2 = ai_hv t LC 2) (e2 : ∀ j, ai_hv t' (LC + 2) j = ai_hv t (LC + 2) j) : cLs t t' LC s [] := ⟨e1.trans h, fun j _ => e2 j, fun j hj => absurd hj (Nat.not_lt_zero j)⟩
theorem cLs_then {t t1 t2 : en_H} {LC s : Nat} {L : List Nat} (h : cLs t t1 LC s L) (e1 : ai_hv t2 LC 2 = ai_hv t1 LC 2) (e2 : ∀ j, ai_hv t2 (LC + 2) j = ai_hv t1 (LC + 2) j) : cLs t t2 LC s L := ⟨e1.trans h.1, fun j hj => (e2 j).trans (h.2.1 j hj), fun j hj => (e2 _).trans (h.2.2 j hj)⟩
theorem cLs_pre {t t1 t2 : en_H} {LC s : Nat} {L : List Nat} (e2 : ∀ j, ai_hv t1 (LC + 2) j = ai_hv t (LC + 2) j) (h : cLs t1 t2 LC s L) : cLs t t2 LC s L := ⟨h.1, fun j hj => (h.2.1 j hj).trans (e2 j), h.2.2⟩
theorem cLs_app {t t1 t2 : en_H} {LC s : Nat} {L1 L2 : List Nat} (h1 : cLs t t1 LC s L1) (h2 : cLs t1 t2 LC (s + L1.length) L2) : cLs t t2 LC s (L1 ++ L2) := by
  refine ⟨by rw [List.length_append, ← Nat.add_assoc]; exact h2.1, fun j hj => (h2.2.1 j (by first | decide | omega)).trans (h1.2.1 j hj), fun j hj => ?_⟩
  rw [List.length_append] at hj
  by_cases c : j < L1.length
  · rw [List.getElem?_append_left c]
    exact (h2.2.1 _ (by first | decide | omega)).trans (h1.2.2 j c)
  · rw [List.getElem?_append_right (by first | decide | omega)]
    have h9 := h2.2.2 (j - L1.length) (by first | decide | omega)
    rw [show s + L1.length + (j - L1.length) = s + j by omega] at h9
    exact h9
theorem tk_wd {a w : Nat} (hw : w = 38 ∨ w = 39 ∨ w = 40 ∨ w = 41) (h : sp_wd S m N a w) : sp_tk S m N a = wd_r w := by
  have hk := sp_wd_kt h
  refine (cif_f (by first | decide | omega)).trans ?_
  rcases hw with rfl | rfl | rfl | rfl
  · exact (cif_t h).trans (by decide)
  · exact (cif_f (fun z => by have := sp_wd_one (by decide) (by decide) z h; omega)).trans ((cif_f (fun z => by have := sp_wd_one (by decide) (by decide) z h; omega)).trans (by decide))
  · exact (cif_f (fun z => by have := sp_wd_one (by decide) (by decide) z h; omega)).trans ((cif_t h).trans (by decide))
  · exact (cif_f (fun z => by have := sp_wd_one (by decide) (by decide) z h; omega)).trans ((cif_f (fun z => by have := sp_wd_one (by decide) (by decide) z h; omega)).trans (by decide))
/-- a law's cell -/
noncomputable def cLaw (LC : Nat) : Prop := (200 ≤ LC ∧ LC ≤ 310) ∧ (∃ g, ah_G LC = some g ∧ ((!g.1) && Nat.beq g.2.1 0) = true) ∧ ∀ (d n z : Nat) (t : en_H), ai_HG ah_G t → z < 4294967296 → ∃ t', en_u (d + 1) 13 [gx_r LC, .inl z] t n = some (none, t', n, 0) ∧ ai_HG ah_G t' ∧ (∀ c i, ¬ ((c = LC ∧ i = 2) ∨ c = LC + 2) → ai_hv t' c i = ai_hv t c i) ∧ ∃ s, ai_hv t LC 2 = some (.inl s) ∧ s ≤ 1000 ∧ (s < 1000 → cLs t t' LC s [z])
noncomputable def cFh (lw fh : Nat) : Prop := (lw = 20 ∧ fh = 7) ∨ (lw = 21 ∧ fh = 8) ∨ (lw = 22 ∧ fh = 2)
theorem pc_ladd230 (d n z : Nat) (t0 : en_H) (g0 : ai_HG ah_G t0) (hz : z < 4294967296) : ∃ t', en_u (d + 1) 13 [gx_r 230, .inl z] t0 n = some (none, t', n, 0) ∧ ai_HG ah_G t' ∧ (∀ c i, ¬ ((c = 230 ∧ i = 2) ∨ c = 232) → ai_hv t' c i = ai_hv t0 c i) ∧ ∃ s, ai_hv t0 230 2 = some (.inl s) ∧ s ≤ 1000 ∧ (s < 1000 → cLs t0 t' 230 s [z]) := by
  have h9 : ∃ r, en_u (d + 1) 13 [gx_r 230, .inl z] t0 n = some r ∧ ∃ t', r = (none, t', n, 0) ∧ ai_HG ah_G t' ∧ (∀ c i, ¬ ((c = 230 ∧ i = 2) ∨ c = 232) → ai_hv t' c i = ai_hv t0 c i) ∧ ∃ s, ai_hv t0 230 2 = some (.inl s) ∧ s ≤ 1000 ∧ (s < 1000 → cLs t0 t' 230 s [z]) := by
    obtain ⟨z0, kz0, -, hz0⟩ := gx_in (c := 230) (i := 2) (lo := 0) (hi := 1000) g0 rfl rfl rfl rfl
    refine en_u_ex rfl ?_
    show en_ex _ _ _ _ (0, [(0, gx_r 230), (1, .inl z)], [], t0, n, 0) _
    refine ex_go (S := (1, [(0, gx_r 230), (1, .inl z)], [gx_r 230], t0, n, 0)) rfl (fun _ => rfl) rfl ?_
    refine gxo_get (a := 230) rfl g0 rfl rfl kz0 rfl ?_
    refine ex_go (S := (5, [(0, gx_r 230), (1, .inl z)], [gx_r 230, .inl z0], t0, n, 0)) rfl (fun _ => rfl) rfl ?_
    refine gxo_ref (a := 230) (c := 232) rfl g0 rfl rfl rfl rfl rfl ?_
    refine gx_alen (a := 232) (m := 1000) rfl g0 rfl rfl rfl ?_
    by_cases hc1 : 1000 ≤ z0
    · refine gx_2t (c := .ge) rfl (by first | decide | omega) (by first | decide | omega) hc1 rfl ?_
      refine ex_ret (r := (none, t0, n, 0)) rfl (fun _ => rfl) ?_
      exact ⟨_, rfl, t0, rfl, g0, (fun c i h => rfl), z0, kz0, hz0, fun h => absurd h (by first | decide | omega)⟩
    · refine gx_2f (c := .ge) rfl (by first | decide | omega) (by first | decide | omega) hc1 rfl ?_
      refine ex_go (S := (13, [(0, gx_r 230), (1, .inl z)], [gx_r 230], t0, n, 0)) rfl (fun _ => rfl) rfl ?_
      refine gxo_ref (a := 230) (c := 232) rfl g0 rfl rfl rfl rfl rfl ?_
      refine ex_go (S := (17, [(0, gx_r 230), (1, .inl z)], [gx_r 230, gx_r 232], t0, n, 0)) rfl (fun _ => rfl) rfl ?_
      refine gxo_get (a := 230) rfl g0 rfl rfl kz0 rfl ?_
      refine ex_go (S := (21, [(0, gx_r 230), (1, .inl z)], [.inl z, .inl z0, gx_r 232], t0, n, 0)) rfl (fun _ => rfl) rfl ?_
      refine gx_ap rfl (fun _ => rfl) g0 rfl rfl rfl (show z0 < 1000 from by omega) (gx_run1 (show z0 < 1000 from by omega)) (gx_full (by first | decide | omega)) rfl (fun t102 g102 k102 e102 => ?_)
      have k3 : ai_hv t102 230 2 = some (.inl z0) := (e102 230 2 (by first | decide | omega)).trans kz0
      refine ex_go (S := (23, [(0, gx_r 230), (1, .inl z)], [gx_r 230], t102, n, 0)) rfl (fun _ => rfl) rfl ?_
      refine ex_go (S := (24, [(0, gx_r 230), (1, .inl z)], [gx_r 230, gx_r 230], t102, n, 0)) rfl (fun _ => rfl) rfl ?_
      refine gxo_get (a := 230) rfl g102 rfl rfl k3 rfl ?_
      refine ex_go (S := (28, [(0, gx_r 230), (1, .inl z)], [.inl 1, .inl z0, gx_r 230], t102, n, 0)) rfl (fun _ => rfl) rfl ?_
      refine ex_iadd rfl (by first | decide | omega) rfl ?_
      refine gxo_put (a := 230) rfl g102 rfl rfl rfl (ai_in_h (by first | decide | omega) (by first | decide | omega) (by first | decide | omega)) rfl (fun t104 g104 k104 e104 => ?_)
      have k5 : ai_hv t104 232 z0 = some (.inl z) := (e104 232 z0 (by first | decide | omega)).trans k102
      refine ex_ret (r := (none, t104, n, 0)) rfl (fun _ => rfl) ?_
      exact ⟨_, rfl, t104, rfl, g104, (fun c i h => (e104 c i (by first | decide | omega)).trans (e102 c i (by first | decide | omega))), z0, kz0, hz0, fun _ => ⟨k104, fun j hj => (e104 232 j (by first | decide | omega)).trans (e102 232 j (by first | decide | omega)), fun j hj => by
        have h8 : j < 1 := hj
        have h7 : j = 0 := by omega
        subst h7
        exact k5⟩⟩
  obtain ⟨_, h8, t', rfl, h7⟩ := h9
  exact ⟨t', h8, h7⟩
theorem cLaw230 : cLaw 230 := ⟨by omega, ⟨_, rfl, rfl⟩, pc_ladd230⟩
theorem pc_ladd233 (d n z : Nat) (t0 : en_H) (g0 : ai_HG ah_G t0) (hz : z < 4294967296) : ∃ t', en_u (d + 1) 13 [gx_r 233, .inl z] t0 n = some (none, t', n, 0) ∧ ai_HG ah_G t' ∧ (∀ c i, ¬ ((c = 233 ∧ i = 2) ∨ c = 235) → ai_hv t' c i = ai_hv t0 c i) ∧ ∃ s, ai_hv t0 233 2 = some (.inl s) ∧ s ≤ 1000 ∧ (s < 1000 → cLs t0 t' 233 s [z]) := by
  have h9 : ∃ r, en_u (d + 1) 13 [gx_r 233, .inl z] t0 n = some r ∧ ∃ t', r = (none, t', n, 0) ∧ ai_HG ah_G t' ∧ (∀ c i, ¬ ((c = 233 ∧ i = 2) ∨ c = 235) → ai_hv t' c i = ai_hv t0 c i) ∧ ∃ s, ai_hv t0 233 2 = some (.inl s) ∧ s ≤ 1000 ∧ (s < 1000 → cLs t0 t' 233 s [z]) := by
    obtain ⟨z0, kz0, -, hz0⟩ := gx_in (c := 233) (i := 2) (lo := 0) (hi := 1000) g0 rfl rfl rfl rfl
    refine en_u_ex rfl ?_
    show en_ex _ _ _ _ (0, [(0, gx_r 233), (1, .inl z)], [], t0, n, 0) _
    refine ex_go (S := (1, [(0, gx_r 233), (1, .inl z)], [gx_r 233], t0, n, 0)) rfl (fun _ => rfl) rfl ?_
    refine gxo_get (a := 233) rfl g0 rfl rfl kz0 rfl ?_
    refine ex_go (S := (5, [(0, gx_r 233), (1, .inl z)], [gx_r 233, .inl z0], t0, n, 0)) rfl (fun _ => rfl) rfl ?_
    refine gxo_ref (a := 233) (c := 235) rfl g0 rfl rfl rfl rfl rfl ?_
    refine gx_alen (a := 235) (m := 1000) rfl g0 rfl rfl rfl ?_
    by_cases hc1 : 1000 ≤ z0
    · refine gx_2t (c := .ge) rfl (by first | decide | omega) (by first | decide | omega) hc1 rfl ?_
      refine ex_ret (r := (none, t0, n, 0)) rfl (fun _ => rfl) ?_
      exact ⟨_, rfl, t0, rfl, g0, (fun c i h => rfl), z0, kz0, hz0, fun h => absurd h (by first | decide | omega)⟩
    · refine gx_2f (c := .ge) rfl (by first | decide | omega) (by first | decide | omega) hc1 rfl ?_
      refine ex_go (S := (13, [(0, gx_r 233), (1, .inl z)], [gx_r 233], t0, n, 0)) rfl (fun _ => rfl) rfl ?_
      refine gxo_ref (a := 233) (c := 235) rfl g0 rfl rfl rfl rfl rfl ?_
      refine ex_go (S := (17, [(0, gx_r 233), (1, .inl z)], [gx_r 233, gx_r 235], t0, n, 0)) rfl (fun _ => rfl) rfl ?_
      refine gxo_get (a := 233) rfl g0 rfl rfl kz0 rfl ?_
      refine ex_go (S := (21, [(0, gx_r 233), (1, .inl z)], [.inl z, .inl z0, gx_r 235], t0, n, 0)) rfl (fun _ => rfl) rfl ?_
      refine gx_ap rfl (fun _ => rfl) g0 rfl rfl rfl (show z0 < 1000 from by omega) (gx_run1 (show z0 < 1000 from by omega)) (gx_full (by first | decide | omega)) rfl (fun t102 g102 k102 e102 => ?_)
      have k3 : ai_hv t102 233 2 = some (.inl z0) := (e102 233 2 (by first | decide | omega)).trans kz0
      refine ex_go (S := (23, [(0, gx_r 233), (1, .inl z)], [gx_r 233], t102, n, 0)) rfl (fun _ => rfl) rfl ?_
      refine ex_go (S := (24, [(0, gx_r 233), (1, .inl z)], [gx_r 233, gx_r 233], t102, n, 0)) rfl (fun _ => rfl) rfl ?_
      refine gxo_get (a := 233) rfl g102 rfl rfl k3 rfl ?_
      refine ex_go (S := (28, [(0, gx_r 233), (1, .inl z)], [.inl 1, .inl z0, gx_r 233], t102, n, 0)) rfl (fun _ => rfl) rfl ?_
      refine ex_iadd rfl (by first | decide | omega) rfl ?_
      refine gxo_put (a := 233) rfl g102 rfl rfl rfl (ai_in_h (by first | decide | omega) (by first | decide | omega) (by first | decide | omega)) rfl (fun t104 g104 k104 e104 => ?_)
      have k5 : ai_hv t104 235 z0 = some (.inl z) := (e104 235 z0 (by first | decide | omega)).trans k102
      refine ex_ret (r := (none, t104, n, 0)) rfl (fun _ => rfl) ?_
      exact ⟨_, rfl, t104, rfl, g104, (fun c i h => (e104 c i (by first | decide | omega)).trans (e102 c i (by first | decide | omega))), z0, kz0, hz0, fun _ => ⟨k104, fun j hj => (e104 235 j (by first | decide | omega)).trans (e102 235 j (by first | decide | omega)), fun j hj => by
        have h8 : j < 1 := hj
        have h7 : j = 0 := by omega
        subst h7
        exact k5⟩⟩
  obtain ⟨_, h8, t', rfl, h7⟩ := h9
  exact ⟨t', h8, h7⟩
theorem cLaw233 : cLaw 233 := ⟨by omega, ⟨_, rfl, rfl⟩, pc_ladd233⟩
theorem pc_ladd236 (d n z : Nat) (t0 : en_H) (g0 : ai_HG ah_G t0) (hz : z < 4294967296) : ∃ t', en_u (d + 1) 13 [gx_r 236, .inl z] t0 n = some (none, t', n, 0) ∧ ai_HG ah_G t' ∧ (∀ c i, ¬ ((c = 236 ∧ i = 2) ∨ c = 238) → ai_hv t' c i = ai_hv t0 c i) ∧ ∃ s, ai_hv t0 236 2 = some (.inl s) ∧ s ≤ 1000 ∧ (s < 1000 → cLs t0 t' 236 s [z]) := by
  have h9 : ∃ r, en_u (d + 1) 13 [gx_r 236, .inl z] t0 n = some r ∧ ∃ t', r = (none, t', n, 0) ∧ ai_HG ah_G t' ∧ (∀ c i, ¬ ((c = 236 ∧ i = 2) ∨ c = 238) → ai_hv t' c i = ai_hv t0 c i) ∧ ∃ s, ai_hv t0 236 2 = some (.inl s) ∧ s ≤ 1000 ∧ (s < 1000 → cLs t0 t' 236 s [z]) := by
    obtain ⟨z0, kz0, -, hz0⟩ := gx_in (c := 236) (i := 2) (lo := 0) (hi := 1000) g0 rfl rfl rfl rfl
    refine en_u_ex rfl ?_
    show en_ex _ _ _ _ (0, [(0, gx_r 236), (1, .inl z)], [], t0, n, 0) _
    refine ex_go (S := (1, [(0, gx_r 236), (1, .inl z)], [gx_r 236], t0, n, 0)) rfl (fun _ => rfl) rfl ?_
    refine gxo_get (a := 236) rfl g0 rfl rfl kz0 rfl ?_
    refine ex_go (S := (5, [(0, gx_r 236), (1, .inl z)], [gx_r 236, .inl z0], t0, n, 0)) rfl (fun _ => rfl) rfl ?_
    refine gxo_ref (a := 236) (c := 238) rfl g0 rfl rfl rfl rfl rfl ?_
    refine gx_alen (a := 238) (m := 1000) rfl g0 rfl rfl rfl ?_
    by_cases hc1 : 1000 ≤ z0
    · refine gx_2t (c := .ge) rfl (by first | decide | omega) (by first | decide | omega) hc1 rfl ?_
      refine ex_ret (r := (none, t0, n, 0)) rfl (fun _ => rfl) ?_
      exact ⟨_, rfl, t0, rfl, g0, (fun c i h => rfl), z0, kz0, hz0, fun h => absurd h (by first | decide | omega)⟩
    · refine gx_2f (c := .ge) rfl (by first | decide | omega) (by first | decide | omega) hc1 rfl ?_
      refine ex_go (S := (13, [(0, gx_r 236), (1, .inl z)], [gx_r 236], t0, n, 0)) rfl (fun _ => rfl) rfl ?_
      refine gxo_ref (a := 236) (c := 238) rfl g0 rfl rfl rfl rfl rfl ?_
      refine ex_go (S := (17, [(0, gx_r 236), (1, .inl z)], [gx_r 236, gx_r 238], t0, n, 0)) rfl (fun _ => rfl) rfl ?_
      refine gxo_get (a := 236) rfl g0 rfl rfl kz0 rfl ?_
      refine ex_go (S := (21, [(0, gx_r 236), (1, .inl z)], [.inl z, .inl z0, gx_r 238], t0, n, 0)) rfl (fun _ => rfl) rfl ?_
      refine gx_ap rfl (fun _ => rfl) g0 rfl rfl rfl (show z0 < 1000 from by omega) (gx_run1 (show z0 < 1000 from by omega)) (gx_full (by first | decide | omega)) rfl (fun t102 g102 k102 e102 => ?_)
      have k3 : ai_hv t102 236 2 = some (.inl z0) := (e102 236 2 (by first | decide | omega)).trans kz0
      refine ex_go (S := (23, [(0, gx_r 236), (1, .inl z)], [gx_r 236], t102, n, 0)) rfl (fun _ => rfl) rfl ?_
      refine ex_go (S := (24, [(0, gx_r 236), (1, .inl z)], [gx_r 236, gx_r 236], t102, n, 0)) rfl (fun _ => rfl) rfl ?_
      refine gxo_get (a := 236) rfl g102 rfl rfl k3 rfl ?_
      refine ex_go (S := (28, [(0, gx_r 236), (1, .inl z)], [.inl 1, .inl z0, gx_r 236], t102, n, 0)) rfl (fun _ => rfl) rfl ?_
      refine ex_iadd rfl (by first | decide | omega) rfl ?_
      refine gxo_put (a := 236) rfl g102 rfl rfl rfl (ai_in_h (by first | decide | omega) (by first | decide | omega) (by first | decide | omega)) rfl (fun t104 g104 k104 e104 => ?_)
      have k5 : ai_hv t104 238 z0 = some (.inl z) := (e104 238 z0 (by first | decide | omega)).trans k102
      refine ex_ret (r := (none, t104, n, 0)) rfl (fun _ => rfl) ?_
      exact ⟨_, rfl, t104, rfl, g104, (fun c i h => (e104 c i (by first | decide | omega)).trans (e102 c i (by first | decide | omega))), z0, kz0, hz0, fun _ => ⟨k104, fun j hj => (e104 238 j (by first | decide | omega)).trans (e102 238 j (by first | decide | omega)), fun j hj => by
        have h8 : j < 1 := hj
        have h7 : j = 0 := by omega
        subst h7
        exact k5⟩⟩
  obtain ⟨_, h8, t', rfl, h7⟩ := h9
  exact ⟨t', h8, h7⟩
theorem cLaw236 : cLaw 236 := ⟨by omega, ⟨_, rfl, rfl⟩, pc_ladd236⟩
theorem pc_ladd296 (d n z : Nat) (t0 : en_H) (g0 : ai_HG ah_G t0) (hz : z < 4294967296) : ∃ t', en_u (d + 1) 13 [gx_r 296, .inl z] t0 n = some (none, t', n, 0) ∧ ai_HG ah_G t' ∧ (∀ c i, ¬ ((c = 296 ∧ i = 2) ∨ c = 298) → ai_hv t' c i = ai_hv t0 c i) ∧ ∃ s, ai_hv t0 296 2 = some (.inl s) ∧ s ≤ 1000 ∧ (s < 1000 → cLs t0 t' 296 s [z]) := by
  have h9 : ∃ r, en_u (d + 1) 13 [gx_r 296, .inl z] t0 n = some r ∧ ∃ t', r = (none, t', n, 0) ∧ ai_HG ah_G t' ∧ (∀ c i, ¬ ((c = 296 ∧ i = 2) ∨ c = 298) → ai_hv t' c i = ai_hv t0 c i) ∧ ∃ s, ai_hv t0 296 2 = some (.inl s) ∧ s ≤ 1000 ∧ (s < 1000 → cLs t0 t' 296 s [z]) := by
    obtain ⟨z0, kz0, -, hz0⟩ := gx_in (c := 296) (i := 2) (lo := 0) (hi := 1000) g0 rfl rfl rfl rfl
    refine en_u_ex rfl ?_
    show en_ex _ _ _ _ (0, [(0, gx_r 296), (1, .inl z)], [], t0, n, 0) _
    refine ex_go (S := (1, [(0, gx_r 296), (1, .inl z)], [gx_r 296], t0, n, 0)) rfl (fun _ => rfl) rfl ?_
    refine gxo_get (a := 296) rfl g0 rfl rfl kz0 rfl ?_
    refine ex_go (S := (5, [(0, gx_r 296), (1, .inl z)], [gx_r 296, .inl z0], t0, n, 0)) rfl (fun _ => rfl) rfl ?_
    refine gxo_ref (a := 296) (c := 298) rfl g0 rfl rfl rfl rfl rfl ?_
    refine gx_alen (a := 298) (m := 1000) rfl g0 rfl rfl rfl ?_
    by_cases hc1 : 1000 ≤ z0
    · refine gx_2t (c := .ge) rfl (by first | decide | omega) (by first | decide | omega) hc1 rfl ?_
      refine ex_ret (r := (none, t0, n, 0)) rfl (fun _ => rfl) ?_
      exact ⟨_, rfl, t0, rfl, g0, (fun c i h => rfl), z0, kz0, hz0, fun h => absurd h (by first | decide | omega)⟩
    · refine gx_2f (c := .ge) rfl (by first | decide | omega) (by first | decide | omega) hc1 rfl ?_
      refine ex_go (S := (13, [(0, gx_r 296), (1, .inl z)], [gx_r 296], t0, n, 0)) rfl (fun _ => rfl) rfl ?_
      refine gxo_ref (a := 296) (c := 298) rfl g0 rfl rfl rfl rfl rfl ?_
      refine ex_go (S := (17, [(0, gx_r 296), (1, .inl z)], [gx_r 296, gx_r 298], t0, n, 0)) rfl (fun _ => rfl) rfl ?_
      refine gxo_get (a := 296) rfl g0 rfl rfl kz0 rfl ?_
      refine ex_go (S := (21, [(0, gx_r 296), (1, .inl z)], [.inl z, .inl z0, gx_r 298], t0, n, 0)) rfl (fun _ => rfl) rfl ?_
      refine gx_ap rfl (fun _ => rfl) g0 rfl rfl rfl (show z0 < 1000 from by omega) (gx_run1 (show z0 < 1000 from by omega)) (gx_full (by first | decide | omega)) rfl (fun t102 g102 k102 e102 => ?_)
      have k3 : ai_hv t102 296 2 = some (.inl z0) := (e102 296 2 (by first | decide | omega)).trans kz0
      refine ex_go (S := (23, [(0, gx_r 296), (1, .inl z)], [gx_r 296], t102, n, 0)) rfl (fun _ => rfl) rfl ?_
      refine ex_go (S := (24, [(0, gx_r 296), (1, .inl z)], [gx_r 296, gx_r 296], t102, n, 0)) rfl (fun _ => rfl) rfl ?_
      refine gxo_get (a := 296) rfl g102 rfl rfl k3 rfl ?_
      refine ex_go (S := (28, [(0, gx_r 296), (1, .inl z)], [.inl 1, .inl z0, gx_r 296], t102, n, 0)) rfl (fun _ => rfl) rfl ?_
      refine ex_iadd rfl (by first | decide | omega) rfl ?_
      refine gxo_put (a := 296) rfl g102 rfl rfl rfl (ai_in_h (by first | decide | omega) (by first | decide | omega) (by first | decide | omega)) rfl (fun t104 g104 k104 e104 => ?_)
      have k5 : ai_hv t104 298 z0 = some (.inl z) := (e104 298 z0 (by first | decide | omega)).trans k102
      refine ex_ret (r := (none, t104, n, 0)) rfl (fun _ => rfl) ?_
      exact ⟨_, rfl, t104, rfl, g104, (fun c i h => (e104 c i (by first | decide | omega)).trans (e102 c i (by first | decide | omega))), z0, kz0, hz0, fun _ => ⟨k104, fun j hj => (e104 298 j (by first | decide | omega)).trans (e102 298 j (by first | decide | omega)), fun j hj => by
        have h8 : j < 1 := hj
        have h7 : j = 0 := by omega
        subst h7
        exact k5⟩⟩
  obtain ⟨_, h8, t', rfl, h7⟩ := h9
  exact ⟨t', h8, h7⟩
theorem cLaw296 : cLaw 296 := ⟨by omega, ⟨_, rfl, rfl⟩, pc_ladd296⟩
theorem pc_ladd299 (d n z : Nat) (t0 : en_H) (g0 : ai_HG ah_G t0) (hz : z < 4294967296) : ∃ t', en_u (d + 1) 13 [gx_r 299, .inl z] t0 n = some (none, t', n, 0) ∧ ai_HG ah_G t' ∧ (∀ c i, ¬ ((c = 299 ∧ i = 2) ∨ c = 301) → ai_hv t' c i = ai_hv t0 c i) ∧ ∃ s, ai_hv t0 299 2 = some (.inl s) ∧ s ≤ 1000 ∧ (s < 1000 → cLs t0 t' 299 s [z]) := by
  have h9 : ∃ r, en_u (d + 1) 13 [gx_r 299, .inl z] t0 n = some r ∧ ∃ t', r = (none, t', n, 0) ∧ ai_HG ah_G t' ∧ (∀ c i, ¬ ((c = 299 ∧ i = 2) ∨ c = 301) → ai_hv t' c i = ai_hv t0 c i) ∧ ∃ s, ai_hv t0 299 2 = some (.inl s) ∧ s ≤ 1000 ∧ (s < 1000 → cLs t0 t' 299 s [z]) := by
    obtain ⟨z0, kz0, -, hz0⟩ := gx_in (c := 299) (i := 2) (lo := 0) (hi := 1000) g0 rfl rfl rfl rfl
    refine en_u_ex rfl ?_
    show en_ex _ _ _ _ (0, [(0, gx_r 299), (1, .inl z)], [], t0, n, 0) _
    refine ex_go (S := (1, [(0, gx_r 299), (1, .inl z)], [gx_r 299], t0, n, 0)) rfl (fun _ => rfl) rfl ?_
    refine gxo_get (a := 299) rfl g0 rfl rfl kz0 rfl ?_
    refine ex_go (S := (5, [(0, gx_r 299), (1, .inl z)], [gx_r 299, .inl z0], t0, n, 0)) rfl (fun _ => rfl) rfl ?_
    refine gxo_ref (a := 299) (c := 301) rfl g0 rfl rfl rfl rfl rfl ?_
    refine gx_alen (a := 301) (m := 1000) rfl g0 rfl rfl rfl ?_
    by_cases hc1 : 1000 ≤ z0
    · refine gx_2t (c := .ge) rfl (by first | decide | omega) (by first | decide | omega) hc1 rfl ?_
      refine ex_ret (r := (none, t0, n, 0)) rfl (fun _ => rfl) ?_
      exact ⟨_, rfl, t0, rfl, g0, (fun c i h => rfl), z0, kz0, hz0, fun h => absurd h (by first | decide | omega)⟩
    · refine gx_2f (c := .ge) rfl (by first | decide | omega) (by first | decide | omega) hc1 rfl ?_
      refine ex_go (S := (13, [(0, gx_r 299), (1, .inl z)], [gx_r 299], t0, n, 0)) rfl (fun _ => rfl) rfl ?_
      refine gxo_ref (a := 299) (c := 301) rfl g0 rfl rfl rfl rfl rfl ?_
      refine ex_go (S := (17, [(0, gx_r 299), (1, .inl z)], [gx_r 299, gx_r 301], t0, n, 0)) rfl (fun _ => rfl) rfl ?_
      refine gxo_get (a := 299) rfl g0 rfl rfl kz0 rfl ?_
      refine ex_go (S := (21, [(0, gx_r 299), (1, .inl z)], [.inl z, .inl z0, gx_r 301], t0, n, 0)) rfl (fun _ => rfl) rfl ?_
      refine gx_ap rfl (fun _ => rfl) g0 rfl rfl rfl (show z0 < 1000 from by omega) (gx_run1 (show z0 < 1000 from by omega)) (gx_full (by first | decide | omega)) rfl (fun t102 g102 k102 e102 => ?_)
      have k3 : ai_hv t102 299 2 = some (.inl z0) := (e102 299 2 (by first | decide | omega)).trans kz0
      refine ex_go (S := (23, [(0, gx_r 299), (1, .inl z)], [gx_r 299], t102, n, 0)) rfl (fun _ => rfl) rfl ?_
      refine ex_go (S := (24, [(0, gx_r 299), (1, .inl z)], [gx_r 299, gx_r 299], t102, n, 0)) rfl (fun _ => rfl) rfl ?_
      refine gxo_get (a := 299) rfl g102 rfl rfl k3 rfl ?_
      refine ex_go (S := (28, [(0, gx_r 299), (1, .inl z)], [.inl 1, .inl z0, gx_r 299], t102, n, 0)) rfl (fun _ => rfl) rfl ?_
      refine ex_iadd rfl (by first | decide | omega) rfl ?_
      refine gxo_put (a := 299) rfl g102 rfl rfl rfl (ai_in_h (by first | decide | omega) (by first | decide | omega) (by first | decide | omega)) rfl (fun t104 g104 k104 e104 => ?_)
      have k5 : ai_hv t104 301 z0 = some (.inl z) := (e104 301 z0 (by first | decide | omega)).trans k102
      refine ex_ret (r := (none, t104, n, 0)) rfl (fun _ => rfl) ?_
      exact ⟨_, rfl, t104, rfl, g104, (fun c i h => (e104 c i (by first | decide | omega)).trans (e102 c i (by first | decide | omega))), z0, kz0, hz0, fun _ => ⟨k104, fun j hj => (e104 301 j (by first | decide | omega)).trans (e102 301 j (by first | decide | omega)), fun j hj => by
        have h8 : j < 1 := hj
        have h7 : j = 0 := by omega
        subst h7
        exact k5⟩⟩
  obtain ⟨_, h8, t', rfl, h7⟩ := h9
  exact ⟨t', h8, h7⟩
theorem cLaw299 : cLaw 299 := ⟨by omega, ⟨_, rfl, rfl⟩, pc_ladd299⟩
theorem pc_ladd302 (d n z : Nat) (t0 : en_H) (g0 : ai_HG ah_G t0) (hz : z < 4294967296) : ∃ t', en_u (d + 1) 13 [gx_r 302, .inl z] t0 n = some (none, t', n, 0) ∧ ai_HG ah_G t' ∧ (∀ c i, ¬ ((c = 302 ∧ i = 2) ∨ c = 304) → ai_hv t' c i = ai_hv t0 c i) ∧ ∃ s, ai_hv t0 302 2 = some (.inl s) ∧ s ≤ 1000 ∧ (s < 1000 → cLs t0 t' 302 s [z]) := by
  have h9 : ∃ r, en_u (d + 1) 13 [gx_r 302, .inl z] t0 n = some r ∧ ∃ t', r = (none, t', n, 0) ∧ ai_HG ah_G t' ∧ (∀ c i, ¬ ((c = 302 ∧ i = 2) ∨ c = 304) → ai_hv t' c i = ai_hv t0 c i) ∧ ∃ s, ai_hv t0 302 2 = some (.inl s) ∧ s ≤ 1000 ∧ (s < 1000 → cLs t0 t' 302 s [z]) := by
    obtain ⟨z0, kz0, -, hz0⟩ := gx_in (c := 302) (i := 2) (lo := 0) (hi := 1000) g0 rfl rfl rfl rfl
    refine en_u_ex rfl ?_
    show en_ex _ _ _ _ (0, [(0, gx_r 302), (1, .inl z)], [], t0, n, 0) _
    refine ex_go (S := (1, [(0, gx_r 302), (1, .inl z)], [gx_r 302], t0, n, 0)) rfl (fun _ => rfl) rfl ?_
    refine gxo_get (a := 302) rfl g0 rfl rfl kz0 rfl ?_
    refine ex_go (S := (5, [(0, gx_r 302), (1, .inl z)], [gx_r 302, .inl z0], t0, n, 0)) rfl (fun _ => rfl) rfl ?_
    refine gxo_ref (a := 302) (c := 304) rfl g0 rfl rfl rfl rfl rfl ?_
    refine gx_alen (a := 304) (m := 1000) rfl g0 rfl rfl rfl ?_
    by_cases hc1 : 1000 ≤ z0
    · refine gx_2t (c := .ge) rfl (by first | decide | omega) (by first | decide | omega) hc1 rfl ?_
      refine ex_ret (r := (none, t0, n, 0)) rfl (fun _ => rfl) ?_
      exact ⟨_, rfl, t0, rfl, g0, (fun c i h => rfl), z0, kz0, hz0, fun h => absurd h (by first | decide | omega)⟩
    · refine gx_2f (c := .ge) rfl (by first | decide | omega) (by first | decide | omega) hc1 rfl ?_
      refine ex_go (S := (13, [(0, gx_r 302), (1, .inl z)], [gx_r 302], t0, n, 0)) rfl (fun _ => rfl) rfl ?_
      refine gxo_ref (a := 302) (c := 304) rfl g0 rfl rfl rfl rfl rfl ?_
      refine ex_go (S := (17, [(0, gx_r 302), (1, .inl z)], [gx_r 302, gx_r 304], t0, n, 0)) rfl (fun _ => rfl) rfl ?_
      refine gxo_get (a := 302) rfl g0 rfl rfl kz0 rfl ?_
      refine ex_go (S := (21, [(0, gx_r 302), (1, .inl z)], [.inl z, .inl z0, gx_r 304], t0, n, 0)) rfl (fun _ => rfl) rfl ?_
      refine gx_ap rfl (fun _ => rfl) g0 rfl rfl rfl (show z0 < 1000 from by omega) (gx_run1 (show z0 < 1000 from by omega)) (gx_full (by first | decide | omega)) rfl (fun t102 g102 k102 e102 => ?_)
      have k3 : ai_hv t102 302 2 = some (.inl z0) := (e102 302 2 (by first | decide | omega)).trans kz0
      refine ex_go (S := (23, [(0, gx_r 302), (1, .inl z)], [gx_r 302], t102, n, 0)) rfl (fun _ => rfl) rfl ?_
      refine ex_go (S := (24, [(0, gx_r 302), (1, .inl z)], [gx_r 302, gx_r 302], t102, n, 0)) rfl (fun _ => rfl) rfl ?_
      refine gxo_get (a := 302) rfl g102 rfl rfl k3 rfl ?_
      refine ex_go (S := (28, [(0, gx_r 302), (1, .inl z)], [.inl 1, .inl z0, gx_r 302], t102, n, 0)) rfl (fun _ => rfl) rfl ?_
      refine ex_iadd rfl (by first | decide | omega) rfl ?_
      refine gxo_put (a := 302) rfl g102 rfl rfl rfl (ai_in_h (by first | decide | omega) (by first | decide | omega) (by first | decide | omega)) rfl (fun t104 g104 k104 e104 => ?_)
      have k5 : ai_hv t104 304 z0 = some (.inl z) := (e104 304 z0 (by first | decide | omega)).trans k102
      refine ex_ret (r := (none, t104, n, 0)) rfl (fun _ => rfl) ?_
      exact ⟨_, rfl, t104, rfl, g104, (fun c i h => (e104 c i (by first | decide | omega)).trans (e102 c i (by first | decide | omega))), z0, kz0, hz0, fun _ => ⟨k104, fun j hj => (e104 304 j (by first | decide | omega)).trans (e102 304 j (by first | decide | omega)), fun j hj => by
        have h8 : j < 1 := hj
        have h7 : j = 0 := by omega
        subst h7
        exact k5⟩⟩
  obtain ⟨_, h8, t', rfl, h7⟩ := h9
  exact ⟨t', h8, h7⟩
theorem cLaw302 : cLaw 302 := ⟨by omega, ⟨_, rfl, rfl⟩, pc_ladd302⟩
theorem pc_lclear230 (d n : Nat) {t0 : en_H} (g0 : ai_HG ah_G t0) : ∃ r, en_u (d + 1) 12 [gx_r 230] t0 n = some r ∧ ∃ t', r = (none, t', n, 0) ∧ ai_HG ah_G t' ∧ (∀ c i, ¬ (c = 230 ∧ i = 2) → ai_hv t' c i = ai_hv t0 c i) ∧ ai_hv t' 230 2 = some (.inl 0) := by
  refine en_u_ex rfl ?_
  show en_ex _ _ _ _ (0, [(0, gx_r 230)], [], t0, n, 0) _
  refine ex_go (S := (1, [(0, gx_r 230)], [gx_r 230], t0, n, 0)) rfl (fun _ => rfl) rfl ?_
  refine ex_go (S := (2, [(0, gx_r 230)], [.inl 0, gx_r 230], t0, n, 0)) rfl (fun _ => rfl) rfl ?_
  refine gxo_put (a := 230) rfl g0 rfl rfl rfl (ai_in_h (by first | decide | omega) (by first | decide | omega) (by first | decide | omega)) rfl (fun t101 g101 k101 e101 => ?_)
  refine ex_ret (r := (none, t101, n, 0)) rfl (fun _ => rfl) ?_
  exact ⟨_, rfl, t101, rfl, g101, (fun c i h => e101 c i (by first | decide | omega)), k101⟩
theorem pc_lclear233 (d n : Nat) {t0 : en_H} (g0 : ai_HG ah_G t0) : ∃ r, en_u (d + 1) 12 [gx_r 233] t0 n = some r ∧ ∃ t', r = (none, t', n, 0) ∧ ai_HG ah_G t' ∧ (∀ c i, ¬ (c = 233 ∧ i = 2) → ai_hv t' c i = ai_hv t0 c i) ∧ ai_hv t' 233 2 = some (.inl 0) := by
  refine en_u_ex rfl ?_
  show en_ex _ _ _ _ (0, [(0, gx_r 233)], [], t0, n, 0) _
  refine ex_go (S := (1, [(0, gx_r 233)], [gx_r 233], t0, n, 0)) rfl (fun _ => rfl) rfl ?_
  refine ex_go (S := (2, [(0, gx_r 233)], [.inl 0, gx_r 233], t0, n, 0)) rfl (fun _ => rfl) rfl ?_
  refine gxo_put (a := 233) rfl g0 rfl rfl rfl (ai_in_h (by first | decide | omega) (by first | decide | omega) (by first | decide | omega)) rfl (fun t101 g101 k101 e101 => ?_)
  refine ex_ret (r := (none, t101, n, 0)) rfl (fun _ => rfl) ?_
  exact ⟨_, rfl, t101, rfl, g101, (fun c i h => e101 c i (by first | decide | omega)), k101⟩
theorem pc_lclear236 (d n : Nat) {t0 : en_H} (g0 : ai_HG ah_G t0) : ∃ r, en_u (d + 1) 12 [gx_r 236] t0 n = some r ∧ ∃ t', r = (none, t', n, 0) ∧ ai_HG ah_G t' ∧ (∀ c i, ¬ (c = 236 ∧ i = 2) → ai_hv t' c i = ai_hv t0 c i) ∧ ai_hv t' 236 2 = some (.inl 0) := by
  refine en_u_ex rfl ?_
  show en_ex _ _ _ _ (0, [(0, gx_r 236)], [], t0, n, 0) _
  refine ex_go (S := (1, [(0, gx_r 236)], [gx_r 236], t0, n, 0)) rfl (fun _ => rfl) rfl ?_
  refine ex_go (S := (2, [(0, gx_r 236)], [.inl 0, gx_r 236], t0, n, 0)) rfl (fun _ => rfl) rfl ?_
  refine gxo_put (a := 236) rfl g0 rfl rfl rfl (ai_in_h (by first | decide | omega) (by first | decide | omega) (by first | decide | omega)) rfl (fun t101 g101 k101 e101 => ?_)
  refine ex_ret (r := (none, t101, n, 0)) rfl (fun _ => rfl) ?_
  exact ⟨_, rfl, t101, rfl, g101, (fun c i h => e101 c i (by first | decide | omega)), k101⟩
theorem pc_lclear296 (d n : Nat) {t0 : en_H} (g0 : ai_HG ah_G t0) : ∃ r, en_u (d + 1) 12 [gx_r 296] t0 n = some r ∧ ∃ t', r = (none, t', n, 0) ∧ ai_HG ah_G t' ∧ (∀ c i, ¬ (c = 296 ∧ i = 2) → ai_hv t' c i = ai_hv t0 c i) ∧ ai_hv t' 296 2 = some (.inl 0) := by
  refine en_u_ex rfl ?_
  show en_ex _ _ _ _ (0, [(0, gx_r 296)], [], t0, n, 0) _
  refine ex_go (S := (1, [(0, gx_r 296)], [gx_r 296], t0, n, 0)) rfl (fun _ => rfl) rfl ?_
  refine ex_go (S := (2, [(0, gx_r 296)], [.inl 0, gx_r 296], t0, n, 0)) rfl (fun _ => rfl) rfl ?_
  refine gxo_put (a := 296) rfl g0 rfl rfl rfl (ai_in_h (by first | decide | omega) (by first | decide | omega) (by first | decide | omega)) rfl (fun t101 g101 k101 e101 => ?_)
  refine ex_ret (r := (none, t101, n, 0)) rfl (fun _ => rfl) ?_
  exact ⟨_, rfl, t101, rfl, g101, (fun c i h => e101 c i (by first | decide | omega)), k101⟩
theorem pc_lclear299 (d n : Nat) {t0 : en_H} (g0 : ai_HG ah_G t0) : ∃ r, en_u (d + 1) 12 [gx_r 299] t0 n = some r ∧ ∃ t', r = (none, t', n, 0) ∧ ai_HG ah_G t' ∧ (∀ c i, ¬ (c = 299 ∧ i = 2) → ai_hv t' c i = ai_hv t0 c i) ∧ ai_hv t' 299 2 = some (.inl 0) := by
  refine en_u_ex rfl ?_
  show en_ex _ _ _ _ (0, [(0, gx_r 299)], [], t0, n, 0) _
  refine ex_go (S := (1, [(0, gx_r 299)], [gx_r 299], t0, n, 0)) rfl (fun _ => rfl) rfl ?_
  refine ex_go (S := (2, [(0, gx_r 299)], [.inl 0, gx_r 299], t0, n, 0)) rfl (fun _ => rfl) rfl ?_
  refine gxo_put (a := 299) rfl g0 rfl rfl rfl (ai_in_h (by first | decide | omega) (by first | decide | omega) (by first | decide | omega)) rfl (fun t101 g101 k101 e101 => ?_)
  refine ex_ret (r := (none, t101, n, 0)) rfl (fun _ => rfl) ?_
  exact ⟨_, rfl, t101, rfl, g101, (fun c i h => e101 c i (by first | decide | omega)), k101⟩
theorem pc_lclear302 (d n : Nat) {t0 : en_H} (g0 : ai_HG ah_G t0) : ∃ r, en_u (d + 1) 12 [gx_r 302] t0 n = some r ∧ ∃ t', r = (none, t', n, 0) ∧ ai_HG ah_G t' ∧ (∀ c i, ¬ (c = 302 ∧ i = 2) → ai_hv t' c i = ai_hv t0 c i) ∧ ai_hv t' 302 2 = some (.inl 0) := by
  refine en_u_ex rfl ?_
  show en_ex _ _ _ _ (0, [(0, gx_r 302)], [], t0, n, 0) _
  refine ex_go (S := (1, [(0, gx_r 302)], [gx_r 302], t0, n, 0)) rfl (fun _ => rfl) rfl ?_
  refine ex_go (S := (2, [(0, gx_r 302)], [.inl 0, gx_r 302], t0, n, 0)) rfl (fun _ => rfl) rfl ?_
  refine gxo_put (a := 302) rfl g0 rfl rfl rfl (ai_in_h (by first | decide | omega) (by first | decide | omega) (by first | decide | omega)) rfl (fun t101 g101 k101 e101 => ?_)
  refine ex_ret (r := (none, t101, n, 0)) rfl (fun _ => rfl) ?_
  exact ⟨_, rfl, t101, rfl, g101, (fun c i h => e101 c i (by first | decide | omega)), k101⟩
theorem pc_isFact0 (d n : Nat) {t0 : en_H} (g0 : ai_HG ah_G t0) (hF : cFh lw fh) (kW : ai_hv t0 7 3 = some (gx_w lw)) : ∃ r, en_u (d + 1) 287 [gx_r 7, .inr (.inr (.inl none))] t0 n = some r ∧ r = (some (.inl 0), t0, n, 0) := by
  have hlw : lw < 42 := by unfold cFh at hF; omega
  refine en_u_ex rfl ?_
  show en_ex _ _ _ _ (0, [(0, gx_r 7), (1, .inr (.inr (.inl none)))], [], t0, n, 0) _
  refine ex_go (S := (1, [(0, gx_r 7), (1, .inr (.inr (.inl none)))], [gx_r 7], t0, n, 0)) rfl (fun _ => rfl) rfl ?_
  refine gxo_get (a := 7) rfl g0 rfl rfl kW rfl ?_
  refine ex_go (S := (7, [(0, gx_r 7), (1, .inr (.inr (.inl none)))], [gx_w 20, gx_w lw], t0, n, 0)) rfl (fun _ => rfl) rfl ?_
  by_cases hc1 : lw = 20
  · refine gx_acnt rfl (by first | decide | omega) (by first | decide | omega) hc1 rfl ?_
    refine ex_go (S := (11, [(0, gx_r 7), (1, .inr (.inr (.inl none)))], [.inr (.inr (.inl none))], t0, n, 0)) rfl (fun _ => rfl) rfl ?_
    refine ex_go (S := (14, [(0, gx_r 7), (1, .inr (.inr (.inl none)))], [gx_w 38, .inr (.inr (.inl none))], t0, n, 0)) rfl (fun _ => rfl) rfl ?_
    refine ex_go (S := (17, [(0, gx_r 7), (1, .inr (.inr (.inl none)))], [], t0, n, 0)) rfl (fun _ => rfl) rfl ?_
    refine ex_go (S := (18, [(0, gx_r 7), (1, .inr (.inr (.inl none)))], [.inr (.inr (.inl none))], t0, n, 0)) rfl (fun _ => rfl) rfl ?_
    refine ex_go (S := (21, [(0, gx_r 7), (1, .inr (.inr (.inl none)))], [gx_w 39, .inr (.inr (.inl none))], t0, n, 0)) rfl (fun _ => rfl) rfl ?_
    refine ex_go (S := (24, [(0, gx_r 7), (1, .inr (.inr (.inl none)))], [], t0, n, 0)) rfl (fun _ => rfl) rfl ?_
    refine ex_go (S := (25, [(0, gx_r 7), (1, .inr (.inr (.inl none)))], [.inr (.inr (.inl none))], t0, n, 0)) rfl (fun _ => rfl) rfl ?_
    refine ex_go (S := (28, [(0, gx_r 7), (1, .inr (.inr (.inl none)))], [gx_w 40, .inr (.inr (.inl none))], t0, n, 0)) rfl (fun _ => rfl) rfl ?_
    refine ex_go (S := (35, [(0, gx_r 7), (1, .inr (.inr (.inl none)))], [], t0, n, 0)) rfl (fun _ => rfl) rfl ?_
    refine ex_go (S := (36, [(0, gx_r 7), (1, .inr (.inr (.inl none)))], [.inl 0], t0, n, 0)) rfl (fun _ => rfl) rfl ?_
    refine ex_ret (r := (some (.inl 0), t0, n, 0)) rfl (fun _ => rfl) ?_
    exact ⟨_, rfl, rfl⟩
  · refine gx_acnf rfl (by first | decide | omega) (by first | decide | omega) hc1 rfl ?_
    refine ex_go (S := (38, [(0, gx_r 7), (1, .inr (.inr (.inl none)))], [.inr (.inr (.inl none))], t0, n, 0)) rfl (fun _ => rfl) rfl ?_
    refine ex_go (S := (39, [(0, gx_r 7), (1, .inr (.inr (.inl none)))], [gx_r 7, .inr (.inr (.inl none))], t0, n, 0)) rfl (fun _ => rfl) rfl ?_
    refine gxo_get (a := 7) rfl g0 rfl rfl kW rfl ?_
    refine ex_go (S := (45, [(0, gx_r 7), (1, .inr (.inr (.inl none)))], [gx_w 21, gx_w lw, .inr (.inr (.inl none))], t0, n, 0)) rfl (fun _ => rfl) rfl ?_
    by_cases hc2 : lw = 21
    · refine gx_acnt rfl (by first | decide | omega) (by first | decide | omega) hc2 rfl ?_
      refine ex_go (S := (51, [(0, gx_r 7), (1, .inr (.inr (.inl none)))], [gx_w 41, .inr (.inr (.inl none))], t0, n, 0)) rfl (fun _ => rfl) rfl ?_
      refine ex_go (S := (57, [(0, gx_r 7), (1, .inr (.inr (.inl none)))], [gx_w 41, .inr (.inr (.inl none))], t0, n, 0)) rfl (fun _ => rfl) rfl ?_
      refine ex_go (S := (64, [(0, gx_r 7), (1, .inr (.inr (.inl none)))], [], t0, n, 0)) rfl (fun _ => rfl) rfl ?_
      refine ex_go (S := (65, [(0, gx_r 7), (1, .inr (.inr (.inl none)))], [.inl 0], t0, n, 0)) rfl (fun _ => rfl) rfl ?_
      refine ex_ret (r := (some (.inl 0), t0, n, 0)) rfl (fun _ => rfl) ?_
      exact ⟨_, rfl, rfl⟩
    · refine gx_acnf rfl (by first | decide | omega) (by first | decide | omega) hc2 rfl ?_
      refine ex_go (S := (57, [(0, gx_r 7), (1, .inr (.inr (.inl none)))], [gx_w 39, .inr (.inr (.inl none))], t0, n, 0)) rfl (fun _ => rfl) rfl ?_
      refine ex_go (S := (64, [(0, gx_r 7), (1, .inr (.inr (.inl none)))], [], t0, n, 0)) rfl (fun _ => rfl) rfl ?_
      refine ex_go (S := (65, [(0, gx_r 7), (1, .inr (.inr (.inl none)))], [.inl 0], t0, n, 0)) rfl (fun _ => rfl) rfl ?_
      refine ex_ret (r := (some (.inl 0), t0, n, 0)) rfl (fun _ => rfl) ?_
      exact ⟨_, rfl, rfl⟩
theorem pc_isFact1 (d n : Nat) {t0 : en_H} {w : Nat} (g0 : ai_HG ah_G t0) (hF : cFh lw fh) (hw : w < 42) (kW : ai_hv t0 7 3 = some (gx_w lw)) : ∃ r, en_u (d + 1) 287 [gx_r 7, gx_w w] t0 n = some r ∧ ∃ b, r = (some (.inl b), t0, n, 0) ∧ b ≤ 1 ∧ (b = 1 ↔ (∃ j, j < 4 ∧ w = 38 + j ∧ (fh >>> j) % 2 = 1)) := by
  refine en_u_ex rfl ?_
  show en_ex _ _ _ _ (0, [(0, gx_r 7), (1, gx_w w)], [], t0, n, 0) _
  rcases hF with ⟨rfl, rfl⟩ | ⟨rfl, rfl⟩ | ⟨rfl, rfl⟩
  · refine ex_go (S := (1, [(0, gx_r 7), (1, gx_w w)], [gx_r 7], t0, n, 0)) rfl (fun _ => rfl) rfl ?_
    refine gxo_get (a := 7) rfl g0 rfl rfl kW rfl ?_
    refine ex_go (S := (7, [(0, gx_r 7), (1, gx_w w)], [gx_w 20, gx_w 20], t0, n, 0)) rfl (fun _ => rfl) rfl ?_
    refine ex_go (S := (10, [(0, gx_r 7), (1, gx_w w)], [], t0, n, 0)) rfl (fun _ => rfl) rfl ?_
    refine ex_go (S := (11, [(0, gx_r 7), (1, gx_w w)], [gx_w w], t0, n, 0)) rfl (fun _ => rfl) rfl ?_
    refine ex_go (S := (14, [(0, gx_r 7), (1, gx_w w)], [gx_w 38, gx_w w], t0, n, 0)) rfl (fun _ => rfl) rfl ?_
    by_cases hc1 : w = 38
    · refine gx_acet rfl (by first | decide | omega) (by first | decide | omega) hc1 rfl ?_
      refine ex_go (S := (32, [(0, gx_r 7), (1, gx_w w)], [.inl 1], t0, n, 0)) rfl (fun _ => rfl) rfl ?_
      refine ex_go (S := (36, [(0, gx_r 7), (1, gx_w w)], [.inl 1], t0, n, 0)) rfl (fun _ => rfl) rfl ?_
      refine ex_ret (r := (some (.inl 1), t0, n, 0)) rfl (fun _ => rfl) ?_
      exact ⟨_, rfl, 1, rfl, by decide, fun _ => ⟨0, by decide, by omega, by decide⟩, fun _ => rfl⟩
    · refine gx_acef rfl (by first | decide | omega) (by first | decide | omega) hc1 rfl ?_
      refine ex_go (S := (18, [(0, gx_r 7), (1, gx_w w)], [gx_w w], t0, n, 0)) rfl (fun _ => rfl) rfl ?_
      refine ex_go (S := (21, [(0, gx_r 7), (1, gx_w w)], [gx_w 39, gx_w w], t0, n, 0)) rfl (fun _ => rfl) rfl ?_
      by_cases hc2 : w = 39
      · refine gx_acet rfl (by first | decide | omega) (by first | decide | omega) hc2 rfl ?_
        refine ex_go (S := (32, [(0, gx_r 7), (1, gx_w w)], [.inl 1], t0, n, 0)) rfl (fun _ => rfl) rfl ?_
        refine ex_go (S := (36, [(0, gx_r 7), (1, gx_w w)], [.inl 1], t0, n, 0)) rfl (fun _ => rfl) rfl ?_
        refine ex_ret (r := (some (.inl 1), t0, n, 0)) rfl (fun _ => rfl) ?_
        exact ⟨_, rfl, 1, rfl, by decide, fun _ => ⟨1, by decide, by omega, by decide⟩, fun _ => rfl⟩
      · refine gx_acef rfl (by first | decide | omega) (by first | decide | omega) hc2 rfl ?_
        refine ex_go (S := (25, [(0, gx_r 7), (1, gx_w w)], [gx_w w], t0, n, 0)) rfl (fun _ => rfl) rfl ?_
        refine ex_go (S := (28, [(0, gx_r 7), (1, gx_w w)], [gx_w 40, gx_w w], t0, n, 0)) rfl (fun _ => rfl) rfl ?_
        by_cases hc3 : w = 40
        · refine gx_acnt rfl (by first | decide | omega) (by first | decide | omega) hc3 rfl ?_
          refine ex_go (S := (32, [(0, gx_r 7), (1, gx_w w)], [.inl 1], t0, n, 0)) rfl (fun _ => rfl) rfl ?_
          refine ex_go (S := (36, [(0, gx_r 7), (1, gx_w w)], [.inl 1], t0, n, 0)) rfl (fun _ => rfl) rfl ?_
          refine ex_ret (r := (some (.inl 1), t0, n, 0)) rfl (fun _ => rfl) ?_
          exact ⟨_, rfl, 1, rfl, by decide, fun _ => ⟨2, by decide, by omega, by decide⟩, fun _ => rfl⟩
        · refine gx_acnf rfl (by first | decide | omega) (by first | decide | omega) hc3 rfl ?_
          refine ex_go (S := (36, [(0, gx_r 7), (1, gx_w w)], [.inl 0], t0, n, 0)) rfl (fun _ => rfl) rfl ?_
          refine ex_ret (r := (some (.inl 0), t0, n, 0)) rfl (fun _ => rfl) ?_
          refine ⟨_, rfl, 0, rfl, by decide, fun z => absurd z (by decide), ?_⟩
          rintro ⟨j, h1, h2, h4⟩
          rcases (show j = 0 ∨ j = 1 ∨ j = 2 ∨ j = 3 by omega) with rfl | rfl | rfl | rfl <;> first | omega | exact absurd h4 (by decide)
  · refine ex_go (S := (1, [(0, gx_r 7), (1, gx_w w)], [gx_r 7], t0, n, 0)) rfl (fun _ => rfl) rfl ?_
    refine gxo_get (a := 7) rfl g0 rfl rfl kW rfl ?_
    refine ex_go (S := (7, [(0, gx_r 7), (1, gx_w w)], [gx_w 20, gx_w 21], t0, n, 0)) rfl (fun _ => rfl) rfl ?_
    refine ex_go (S := (37, [(0, gx_r 7), (1, gx_w w)], [], t0, n, 0)) rfl (fun _ => rfl) rfl ?_
    refine ex_go (S := (38, [(0, gx_r 7), (1, gx_w w)], [gx_w w], t0, n, 0)) rfl (fun _ => rfl) rfl ?_
    refine ex_go (S := (39, [(0, gx_r 7), (1, gx_w w)], [gx_r 7, gx_w w], t0, n, 0)) rfl (fun _ => rfl) rfl ?_
    refine gxo_get (a := 7) rfl g0 rfl rfl kW rfl ?_
    refine ex_go (S := (45, [(0, gx_r 7), (1, gx_w w)], [gx_w 21, gx_w 21, gx_w w], t0, n, 0)) rfl (fun _ => rfl) rfl ?_
    refine ex_go (S := (48, [(0, gx_r 7), (1, gx_w w)], [gx_w w], t0, n, 0)) rfl (fun _ => rfl) rfl ?_
    refine ex_go (S := (51, [(0, gx_r 7), (1, gx_w w)], [gx_w 41, gx_w w], t0, n, 0)) rfl (fun _ => rfl) rfl ?_
    refine ex_go (S := (57, [(0, gx_r 7), (1, gx_w w)], [gx_w 41, gx_w w], t0, n, 0)) rfl (fun _ => rfl) rfl ?_
    by_cases hc1 : w = 41
    · refine gx_acnt rfl (by first | decide | omega) (by first | decide | omega) hc1 rfl ?_
      refine ex_go (S := (61, [(0, gx_r 7), (1, gx_w w)], [.inl 1], t0, n, 0)) rfl (fun _ => rfl) rfl ?_
      refine ex_go (S := (65, [(0, gx_r 7), (1, gx_w w)], [.inl 1], t0, n, 0)) rfl (fun _ => rfl) rfl ?_
      refine ex_ret (r := (some (.inl 1), t0, n, 0)) rfl (fun _ => rfl) ?_
      exact ⟨_, rfl, 1, rfl, by decide, fun _ => ⟨3, by decide, by omega, by decide⟩, fun _ => rfl⟩
    · refine gx_acnf rfl (by first | decide | omega) (by first | decide | omega) hc1 rfl ?_
      refine ex_go (S := (65, [(0, gx_r 7), (1, gx_w w)], [.inl 0], t0, n, 0)) rfl (fun _ => rfl) rfl ?_
      refine ex_ret (r := (some (.inl 0), t0, n, 0)) rfl (fun _ => rfl) ?_
      refine ⟨_, rfl, 0, rfl, by decide, fun z => absurd z (by decide), ?_⟩
      rintro ⟨j, h1, h2, h4⟩
      rcases (show j = 0 ∨ j = 1 ∨ j = 2 ∨ j = 3 by omega) with rfl | rfl | rfl | rfl <;> first | omega | exact absurd h4 (by decide)
  · refine ex_go (S := (1, [(0, gx_r 7), (1, gx_w w)], [gx_r 7], t0, n, 0)) rfl (fun _ => rfl) rfl ?_
    refine gxo_get (a := 7) rfl g0 rfl rfl kW rfl ?_
    refine ex_go (S := (7, [(0, gx_r 7), (1, gx_w w)], [gx_w 20, gx_w 22], t0, n, 0)) rfl (fun _ => rfl) rfl ?_
    refine ex_go (S := (37, [(0, gx_r 7), (1, gx_w w)], [], t0, n, 0)) rfl (fun _ => rfl) rfl ?_
    refine ex_go (S := (38, [(0, gx_r 7), (1, gx_w w)], [gx_w w], t0, n, 0)) rfl (fun _ => rfl) rfl ?_
    refine ex_go (S := (39, [(0, gx_r 7), (1, gx_w w)], [gx_r 7, gx_w w], t0, n, 0)) rfl (fun _ => rfl) rfl ?_
    refine gxo_get (a := 7) rfl g0 rfl rfl kW rfl ?_
    refine ex_go (S := (45, [(0, gx_r 7), (1, gx_w w)], [gx_w 21, gx_w 22, gx_w w], t0, n, 0)) rfl (fun _ => rfl) rfl ?_
    refine ex_go (S := (54, [(0, gx_r 7), (1, gx_w w)], [gx_w w], t0, n, 0)) rfl (fun _ => rfl) rfl ?_
    refine ex_go (S := (57, [(0, gx_r 7), (1, gx_w w)], [gx_w 39, gx_w w], t0, n, 0)) rfl (fun _ => rfl) rfl ?_
    by_cases hc1 : w = 39
    · refine gx_acnt rfl (by first | decide | omega) (by first | decide | omega) hc1 rfl ?_
      refine ex_go (S := (61, [(0, gx_r 7), (1, gx_w w)], [.inl 1], t0, n, 0)) rfl (fun _ => rfl) rfl ?_
      refine ex_go (S := (65, [(0, gx_r 7), (1, gx_w w)], [.inl 1], t0, n, 0)) rfl (fun _ => rfl) rfl ?_
      refine ex_ret (r := (some (.inl 1), t0, n, 0)) rfl (fun _ => rfl) ?_
      exact ⟨_, rfl, 1, rfl, by decide, fun _ => ⟨1, by decide, by omega, by decide⟩, fun _ => rfl⟩
    · refine gx_acnf rfl (by first | decide | omega) (by first | decide | omega) hc1 rfl ?_
      refine ex_go (S := (65, [(0, gx_r 7), (1, gx_w w)], [.inl 0], t0, n, 0)) rfl (fun _ => rfl) rfl ?_
      refine ex_ret (r := (some (.inl 0), t0, n, 0)) rfl (fun _ => rfl) ?_
      refine ⟨_, rfl, 0, rfl, by decide, fun z => absurd z (by decide), ?_⟩
      rintro ⟨j, h1, h2, h4⟩
      rcases (show j = 0 ∨ j = 1 ∨ j = 2 ∨ j = 3 by omega) with rfl | rfl | rfl | rfl <;> first | omega | exact absurd h4 (by decide)
theorem pc_beginsPart (d n : Nat) {t0 : en_H} {a f : Nat} (s0 : cS t0 a f) (hT : cT t0 S m N) (ha : a ≤ N) (hF : cFh lw fh) (kW : ai_hv t0 7 3 = some (gx_w lw)) : ∃ r, en_u (d + 2) 284 [gx_r 7] t0 n = some r ∧ ∃ b, r = (some (.inl b), t0, n, 0) ∧ (b ≤ 1 ∧ (b = 1 ↔ sp_bp S m N fh a)) := by
  have b0 := s0.2.2.2
  have hN := hT.2.2.2.2.2.2.1
  refine en_u_ex (d := d + 1) rfl ?_
  show en_ex _ _ _ _ (0, [(0, gx_r 7)], [], t0, n, 0) _
  refine ex_go (S := (1, [(0, gx_r 7)], [gx_r 7], t0, n, 0)) rfl (fun _ => rfl) rfl ?_
  refine gxo_ref (a := 7) (c := 1) rfl s0.1 rfl rfl rfl rfl rfl ?_
  obtain ⟨_, r101, v101, rfl, q101⟩ := pc_isNumber (d) n (s0) hT (by first | decide | omega) 
  refine gx_callo (a := 1) rfl rfl s0.1 rfl rfl rfl r101 rfl ?_
  show en_ex _ _ _ _ (7, [(0, gx_r 7)], [.inl v101], t0, n, 0) _
  by_cases hc2 : v101 ≠ 0
  · refine gx_1t (c := .ne) rfl (by first | decide | omega) hc2 rfl ?_
    refine ex_go (S := (50, [(0, gx_r 7)], [.inl 1], t0, n, 0)) rfl (fun _ => rfl) rfl ?_
    refine ex_go (S := (54, [(0, gx_r 7)], [.inl 1], t0, n, 0)) rfl (fun _ => rfl) rfl ?_
    refine ex_ret (r := (some (.inl 1), t0, n, 0)) rfl (fun _ => rfl) ?_
    exact ⟨_, rfl, 1, rfl, by decide, fun _ => Or.inl (q101.2.mp (by first | decide | omega)), fun _ => rfl⟩
  · refine gx_1f (c := .ne) rfl (by first | decide | omega) hc2 rfl ?_
    refine ex_go (S := (11, [(0, gx_r 7)], [gx_r 7], t0, n, 0)) rfl (fun _ => rfl) rfl ?_
    refine gxo_ref (a := 7) (c := 1) rfl s0.1 rfl rfl rfl rfl rfl ?_
    refine ex_go (S := (16, [(0, gx_r 7)], [.inl 40, gx_r 1], t0, n, 0)) rfl (fun _ => rfl) rfl ?_
    obtain ⟨_, r103, v103, rfl, q103⟩ := pc_isSign (d) n (s0) hT (by first | decide | omega) (w := 40) (by first | decide | omega)
    refine gx_callo (a := 1) rfl rfl s0.1 rfl rfl rfl r103 rfl ?_
    show en_ex _ _ _ _ (19, [(0, gx_r 7)], [.inl v103], t0, n, 0) _
    by_cases hc4 : v103 ≠ 0
    · refine gx_1t (c := .ne) rfl (by first | decide | omega) hc4 rfl ?_
      refine ex_go (S := (50, [(0, gx_r 7)], [.inl 1], t0, n, 0)) rfl (fun _ => rfl) rfl ?_
      refine ex_go (S := (54, [(0, gx_r 7)], [.inl 1], t0, n, 0)) rfl (fun _ => rfl) rfl ?_
      refine ex_ret (r := (some (.inl 1), t0, n, 0)) rfl (fun _ => rfl) ?_
      exact ⟨_, rfl, 1, rfl, by decide, fun _ => Or.inr (Or.inr (Or.inl (q103.2.mp (by first | decide | omega)))), fun _ => rfl⟩
    · refine gx_1f (c := .ne) rfl (by first | decide | omega) hc4 rfl ?_
      refine ex_go (S := (23, [(0, gx_r 7)], [gx_r 7], t0, n, 0)) rfl (fun _ => rfl) rfl ?_
      refine gxo_ref (a := 7) (c := 1) rfl s0.1 rfl rfl rfl rfl rfl ?_
      refine ex_go (S := (29, [(0, gx_r 7)], [gx_w 35, gx_r 1], t0, n, 0)) rfl (fun _ => rfl) rfl ?_
      obtain ⟨_, r105, v105, rfl, q105⟩ := pc_isWord (d) n (s0) hT (by first | decide | omega) (w := 35) (by first | decide | omega)
      refine gx_callo (a := 1) rfl rfl s0.1 rfl rfl rfl r105 rfl ?_
      show en_ex _ _ _ _ (32, [(0, gx_r 7)], [.inl v105], t0, n, 0) _
      by_cases hc6 : v105 ≠ 0
      · refine gx_1t (c := .ne) rfl (by first | decide | omega) hc6 rfl ?_
        refine ex_go (S := (50, [(0, gx_r 7)], [.inl 1], t0, n, 0)) rfl (fun _ => rfl) rfl ?_
        refine ex_go (S := (54, [(0, gx_r 7)], [.inl 1], t0, n, 0)) rfl (fun _ => rfl) rfl ?_
        refine ex_ret (r := (some (.inl 1), t0, n, 0)) rfl (fun _ => rfl) ?_
        exact ⟨_, rfl, 1, rfl, by decide, fun _ => Or.inr (Or.inr (Or.inr (q105.2.mp (by first | decide | omega)))), fun _ => rfl⟩
      · refine gx_1f (c := .ne) rfl (by first | decide | omega) hc6 rfl ?_
        refine ex_go (S := (36, [(0, gx_r 7)], [gx_r 7], t0, n, 0)) rfl (fun _ => rfl) rfl ?_
        refine ex_go (S := (37, [(0, gx_r 7)], [gx_r 7, gx_r 7], t0, n, 0)) rfl (fun _ => rfl) rfl ?_
        refine gxo_ref (a := 7) (c := 1) rfl s0.1 rfl rfl rfl rfl rfl ?_
        obtain ⟨_, r107, wv107, rfl, q107⟩ := pc_word (d) n (s0) hT (by first | decide | omega)
        rcases q107 with ⟨rfl, nw107⟩ | ⟨w107, bw107, rfl, yw107⟩
        · refine gx_callo (a := 1) rfl rfl s0.1 rfl rfl rfl r107 rfl ?_
          show en_ex _ _ _ _ (43, [(0, gx_r 7)], [.inr (.inr (.inl none)), gx_r 7], t0, n, 0) _
          obtain ⟨_, r8, rfl⟩ := pc_isFact0 (d) n s0.1 hF kW
          refine gx_callo (a := 7) rfl rfl s0.1 rfl rfl rfl r8 rfl ?_
          show en_ex _ _ _ _ (46, [(0, gx_r 7)], [.inl 0], t0, n, 0) _
          refine ex_go (S := (53, [(0, gx_r 7)], [], t0, n, 0)) rfl (fun _ => rfl) rfl ?_
          refine ex_go (S := (54, [(0, gx_r 7)], [.inl 0], t0, n, 0)) rfl (fun _ => rfl) rfl ?_
          refine ex_ret (r := (some (.inl 0), t0, n, 0)) rfl (fun _ => rfl) ?_
          refine ⟨_, rfl, 0, rfl, by decide, fun z => absurd z (by decide), ?_⟩
          rintro (z | ⟨j, j1, j2, j3⟩ | z | z)
          · exact absurd (q101.2.mpr z) (by first | decide | omega)
          · exact absurd j2 (nw107 _ (by first | decide | omega))
          · exact absurd (q103.2.mpr z) (by first | decide | omega)
          · exact absurd (q105.2.mpr z) (by first | decide | omega)
        · refine gx_callo (a := 1) rfl rfl s0.1 rfl rfl rfl r107 rfl ?_
          show en_ex _ _ _ _ (43, [(0, gx_r 7)], [gx_w w107, gx_r 7], t0, n, 0) _
          obtain ⟨_, r9, b10, rfl, q11⟩ := pc_isFact1 (d) n s0.1 hF (w := w107) (by first | decide | omega) kW
          refine gx_callo (a := 7) rfl rfl s0.1 rfl rfl rfl r9 rfl ?_
          show en_ex _ _ _ _ (46, [(0, gx_r 7)], [.inl b10], t0, n, 0) _
          by_cases hc12 : b10 = 0
          · refine gx_1t (c := .eq) rfl (by first | decide | omega) hc12 rfl ?_
            refine ex_go (S := (54, [(0, gx_r 7)], [.inl 0], t0, n, 0)) rfl (fun _ => rfl) rfl ?_
            refine ex_ret (r := (some (.inl 0), t0, n, 0)) rfl (fun _ => rfl) ?_
            refine ⟨_, rfl, 0, rfl, by decide, fun z => absurd z (by decide), ?_⟩
            rintro (z | ⟨j, j1, j2, j3⟩ | z | z)
            · exact absurd (q101.2.mpr z) (by first | decide | omega)
            · exact absurd (q11.2.mpr ⟨j, j1, sp_wd_one (by first | decide | omega) (by first | decide | omega) yw107 j2, j3⟩) (by first | decide | omega)
            · exact absurd (q103.2.mpr z) (by first | decide | omega)
            · exact absurd (q105.2.mpr z) (by first | decide | omega)
          · refine gx_1f (c := .eq) rfl (by first | decide | omega) hc12 rfl ?_
            refine ex_go (S := (50, [(0, gx_r 7)], [.inl 1], t0, n, 0)) rfl (fun _ => rfl) rfl ?_
            refine ex_go (S := (54, [(0, gx_r 7)], [.inl 1], t0, n, 0)) rfl (fun _ => rfl) rfl ?_
            refine ex_ret (r := (some (.inl 1), t0, n, 0)) rfl (fun _ => rfl) ?_
            obtain ⟨j, j1, j2, j3⟩ := q11.2.mp (by first | decide | omega)
            exact ⟨_, rfl, 1, rfl, by decide, fun _ => Or.inr (Or.inl ⟨j, j1, by rw [← j2]; exact yw107, j3⟩), fun _ => rfl⟩
theorem pc_operatorHere (d n : Nat) {t0 : en_H} {a f l : Nat} (s0 : cS t0 a f) (hT : cT t0 S m N) (ha : a ≤ N) (hl : l < 4) : ∃ r, en_u (d + 2) 281 [gx_r 7, .inl l] t0 n = some r ∧ ∃ b, r = (some (.inl b), t0, n, 0) ∧ ((b = 0 ∧ (f = 0 → ¬ sp_op S m N l a)) ∨ (4294967280 ≤ b ∧ b < 4294967296 ∧ f = 0 ∧ sp_op S m N l a ∧ b = sp_oc S m N a)) := by
  have b0 := s0.2.2.2
  have hN := hT.2.2.2.2.2.2.1
  refine en_u_ex (d := d + 1) rfl ?_
  show en_ex _ _ _ _ (0, [(0, gx_r 7), (1, .inl l)], [], t0, n, 0) _
  rcases (show l = 0 ∨ l = 1 ∨ l = 2 ∨ l = 3 by omega) with rfl | rfl | rfl | rfl
  · refine ex_go (S := (1, [(0, gx_r 7), (1, .inl 0)], [gx_r 7], t0, n, 0)) rfl (fun _ => rfl) rfl ?_
    refine gxo_ref (a := 7) (c := 1) rfl s0.1 rfl rfl rfl rfl rfl ?_
    refine gxo_get (a := 1) rfl s0.1 rfl rfl s0.2.2.1 rfl ?_
    by_cases hc1 : f = 0
    · refine gx_1t (c := .eq) rfl (by first | decide | omega) hc1 rfl ?_
      refine ex_go (S := (13, [(0, gx_r 7), (1, .inl 0)], [.inl 0], t0, n, 0)) rfl (fun _ => rfl) rfl ?_
      refine ex_go (S := (16, [(0, gx_r 7), (1, .inl 0)], [], t0, n, 0)) rfl (fun _ => rfl) rfl ?_
      refine ex_go (S := (17, [(0, gx_r 7), (1, .inl 0)], [gx_r 7], t0, n, 0)) rfl (fun _ => rfl) rfl ?_
      refine gxo_ref (a := 7) (c := 1) rfl s0.1 rfl rfl rfl rfl rfl ?_
      refine ex_go (S := (23, [(0, gx_r 7), (1, .inl 0)], [gx_w 36, gx_r 1], t0, n, 0)) rfl (fun _ => rfl) rfl ?_
      obtain ⟨_, r102, v102, rfl, q102⟩ := pc_isWord (d) n (s0) hT (by first | decide | omega) (w := 36) (by first | decide | omega)
      refine gx_callo (a := 1) rfl rfl s0.1 rfl rfl rfl r102 rfl ?_
      show en_ex _ _ _ _ (26, [(0, gx_r 7), (1, .inl 0)], [.inl v102], t0, n, 0) _
      by_cases hc3 : v102 = 0
      · refine gx_1t (c := .eq) rfl (by first | decide | omega) hc3 rfl ?_
        refine ex_go (S := (35, [(0, gx_r 7), (1, .inl 0)], [gx_r 7], t0, n, 0)) rfl (fun _ => rfl) rfl ?_
        refine gxo_ref (a := 7) (c := 1) rfl s0.1 rfl rfl rfl rfl rfl ?_
        refine ex_go (S := (41, [(0, gx_r 7), (1, .inl 0)], [gx_w 37, gx_r 1], t0, n, 0)) rfl (fun _ => rfl) rfl ?_
        obtain ⟨_, r104, v104, rfl, q104⟩ := pc_isWord (d) n (s0) hT (by first | decide | omega) (w := 37) (by first | decide | omega)
        refine gx_callo (a := 1) rfl rfl s0.1 rfl rfl rfl r104 rfl ?_
        show en_ex _ _ _ _ (44, [(0, gx_r 7), (1, .inl 0)], [.inl v104], t0, n, 0) _
        by_cases hc5 : v104 = 0
        · refine gx_1t (c := .eq) rfl (by first | decide | omega) hc5 rfl ?_
          refine ex_go (S := (53, [(0, gx_r 7), (1, .inl 0)], [.inl 0], t0, n, 0)) rfl (fun _ => rfl) rfl ?_
          refine ex_ret (r := (some (.inl 0), t0, n, 0)) rfl (fun _ => rfl) ?_
          refine ⟨_, rfl, 0, rfl, Or.inl ⟨rfl, fun _ z => ?_⟩⟩
          rcases sp_op_0.mp z with z | z
          · exact absurd (q102.2.mpr z) (by first | decide | omega)
          · exact absurd (q104.2.mpr z) (by first | decide | omega)
        · refine gx_1f (c := .eq) rfl (by first | decide | omega) hc5 rfl ?_
          refine ex_go (S := (49, [(0, gx_r 7), (1, .inl 0)], [.inl 4294967293], t0, n, 0)) rfl (fun _ => rfl) rfl ?_
          refine ex_go (S := (53, [(0, gx_r 7), (1, .inl 0)], [.inl 4294967293], t0, n, 0)) rfl (fun _ => rfl) rfl ?_
          refine ex_ret (r := (some (.inl 4294967293), t0, n, 0)) rfl (fun _ => rfl) ?_
          exact ⟨_, rfl, 4294967293, rfl, Or.inr ⟨by decide, by decide, by omega, sp_op_0.mpr (Or.inr (q104.2.mp (by first | decide | omega))), (oc_37 (q104.2.mp (by first | decide | omega))).symm⟩⟩
      · refine gx_1f (c := .eq) rfl (by first | decide | omega) hc3 rfl ?_
        refine ex_go (S := (31, [(0, gx_r 7), (1, .inl 0)], [.inl 4294967294], t0, n, 0)) rfl (fun _ => rfl) rfl ?_
        refine ex_go (S := (53, [(0, gx_r 7), (1, .inl 0)], [.inl 4294967294], t0, n, 0)) rfl (fun _ => rfl) rfl ?_
        refine ex_ret (r := (some (.inl 4294967294), t0, n, 0)) rfl (fun _ => rfl) ?_
        exact ⟨_, rfl, 4294967294, rfl, Or.inr ⟨by decide, by decide, by omega, sp_op_0.mpr (Or.inl (q102.2.mp (by first | decide | omega))), (oc_36 (q102.2.mp (by first | decide | omega))).symm⟩⟩
    · refine gx_1f (c := .eq) rfl (by first | decide | omega) hc1 rfl ?_
      refine ex_go (S := (11, [(0, gx_r 7), (1, .inl 0)], [.inl 0], t0, n, 0)) rfl (fun _ => rfl) rfl ?_
      refine ex_ret (r := (some (.inl 0), t0, n, 0)) rfl (fun _ => rfl) ?_
      exact ⟨_, rfl, 0, rfl, Or.inl ⟨rfl, fun z => by omega⟩⟩
  · refine ex_go (S := (1, [(0, gx_r 7), (1, .inl 1)], [gx_r 7], t0, n, 0)) rfl (fun _ => rfl) rfl ?_
    refine gxo_ref (a := 7) (c := 1) rfl s0.1 rfl rfl rfl rfl rfl ?_
    refine gxo_get (a := 1) rfl s0.1 rfl rfl s0.2.2.1 rfl ?_
    by_cases hc1 : f = 0
    · refine gx_1t (c := .eq) rfl (by first | decide | omega) hc1 rfl ?_
      refine ex_go (S := (13, [(0, gx_r 7), (1, .inl 1)], [.inl 1], t0, n, 0)) rfl (fun _ => rfl) rfl ?_
      refine ex_go (S := (54, [(0, gx_r 7), (1, .inl 1)], [], t0, n, 0)) rfl (fun _ => rfl) rfl ?_
      refine ex_go (S := (55, [(0, gx_r 7), (1, .inl 1)], [.inl 1], t0, n, 0)) rfl (fun _ => rfl) rfl ?_
      refine ex_go (S := (56, [(0, gx_r 7), (1, .inl 1)], [.inl 1, .inl 1], t0, n, 0)) rfl (fun _ => rfl) rfl ?_
      refine ex_go (S := (59, [(0, gx_r 7), (1, .inl 1)], [], t0, n, 0)) rfl (fun _ => rfl) rfl ?_
      refine ex_go (S := (60, [(0, gx_r 7), (1, .inl 1)], [gx_r 7], t0, n, 0)) rfl (fun _ => rfl) rfl ?_
      refine gxo_ref (a := 7) (c := 1) rfl s0.1 rfl rfl rfl rfl rfl ?_
      refine ex_go (S := (65, [(0, gx_r 7), (1, .inl 1)], [.inl 60, gx_r 1], t0, n, 0)) rfl (fun _ => rfl) rfl ?_
      obtain ⟨_, r102, v102, rfl, q102⟩ := pc_isSign (d) n (s0) hT (by first | decide | omega) (w := 60) (by first | decide | omega)
      refine gx_callo (a := 1) rfl rfl s0.1 rfl rfl rfl r102 rfl ?_
      show en_ex _ _ _ _ (68, [(0, gx_r 7), (1, .inl 1)], [.inl v102], t0, n, 0) _
      by_cases hc3 : v102 = 0
      · refine gx_1t (c := .eq) rfl (by first | decide | omega) hc3 rfl ?_
        refine ex_go (S := (77, [(0, gx_r 7), (1, .inl 1)], [gx_r 7], t0, n, 0)) rfl (fun _ => rfl) rfl ?_
        refine gxo_ref (a := 7) (c := 1) rfl s0.1 rfl rfl rfl rfl rfl ?_
        refine ex_go (S := (82, [(0, gx_r 7), (1, .inl 1)], [.inl 61, gx_r 1], t0, n, 0)) rfl (fun _ => rfl) rfl ?_
        obtain ⟨_, r104, v104, rfl, q104⟩ := pc_isSign (d) n (s0) hT (by first | decide | omega) (w := 61) (by first | decide | omega)
        refine gx_callo (a := 1) rfl rfl s0.1 rfl rfl rfl r104 rfl ?_
        show en_ex _ _ _ _ (85, [(0, gx_r 7), (1, .inl 1)], [.inl v104], t0, n, 0) _
        by_cases hc5 : v104 = 0
        · refine gx_1t (c := .eq) rfl (by first | decide | omega) hc5 rfl ?_
          refine ex_go (S := (94, [(0, gx_r 7), (1, .inl 1)], [.inl 0], t0, n, 0)) rfl (fun _ => rfl) rfl ?_
          refine ex_ret (r := (some (.inl 0), t0, n, 0)) rfl (fun _ => rfl) ?_
          refine ⟨_, rfl, 0, rfl, Or.inl ⟨rfl, fun _ z => ?_⟩⟩
          rcases sp_op_1.mp z with z | z
          · exact absurd (q102.2.mpr z) (by first | decide | omega)
          · exact absurd (q104.2.mpr z) (by first | decide | omega)
        · refine gx_1f (c := .eq) rfl (by first | decide | omega) hc5 rfl ?_
          refine ex_go (S := (90, [(0, gx_r 7), (1, .inl 1)], [.inl 4294967291], t0, n, 0)) rfl (fun _ => rfl) rfl ?_
          refine ex_go (S := (94, [(0, gx_r 7), (1, .inl 1)], [.inl 4294967291], t0, n, 0)) rfl (fun _ => rfl) rfl ?_
          refine ex_ret (r := (some (.inl 4294967291), t0, n, 0)) rfl (fun _ => rfl) ?_
          exact ⟨_, rfl, 4294967291, rfl, Or.inr ⟨by decide, by decide, by omega, sp_op_1.mpr (Or.inr (q104.2.mp (by first | decide | omega))), (oc_61 (q104.2.mp (by first | decide | omega))).symm⟩⟩
      · refine gx_1f (c := .eq) rfl (by first | decide | omega) hc3 rfl ?_
        refine ex_go (S := (73, [(0, gx_r 7), (1, .inl 1)], [.inl 4294967292], t0, n, 0)) rfl (fun _ => rfl) rfl ?_
        refine ex_go (S := (94, [(0, gx_r 7), (1, .inl 1)], [.inl 4294967292], t0, n, 0)) rfl (fun _ => rfl) rfl ?_
        refine ex_ret (r := (some (.inl 4294967292), t0, n, 0)) rfl (fun _ => rfl) ?_
        exact ⟨_, rfl, 4294967292, rfl, Or.inr ⟨by decide, by decide, by omega, sp_op_1.mpr (Or.inl (q102.2.mp (by first | decide | omega))), (oc_60 (q102.2.mp (by first | decide | omega))).symm⟩⟩
    · refine gx_1f (c := .eq) rfl (by first | decide | omega) hc1 rfl ?_
      refine ex_go (S := (11, [(0, gx_r 7), (1, .inl 1)], [.inl 0], t0, n, 0)) rfl (fun _ => rfl) rfl ?_
      refine ex_ret (r := (some (.inl 0), t0, n, 0)) rfl (fun _ => rfl) ?_
      exact ⟨_, rfl, 0, rfl, Or.inl ⟨rfl, fun z => by omega⟩⟩
  · refine ex_go (S := (1, [(0, gx_r 7), (1, .inl 2)], [gx_r 7], t0, n, 0)) rfl (fun _ => rfl) rfl ?_
    refine gxo_ref (a := 7) (c := 1) rfl s0.1 rfl rfl rfl rfl rfl ?_
    refine gxo_get (a := 1) rfl s0.1 rfl rfl s0.2.2.1 rfl ?_
    by_cases hc1 : f = 0
    · refine gx_1t (c := .eq) rfl (by first | decide | omega) hc1 rfl ?_
      refine ex_go (S := (13, [(0, gx_r 7), (1, .inl 2)], [.inl 2], t0, n, 0)) rfl (fun _ => rfl) rfl ?_
      refine ex_go (S := (54, [(0, gx_r 7), (1, .inl 2)], [], t0, n, 0)) rfl (fun _ => rfl) rfl ?_
      refine ex_go (S := (55, [(0, gx_r 7), (1, .inl 2)], [.inl 2], t0, n, 0)) rfl (fun _ => rfl) rfl ?_
      refine ex_go (S := (56, [(0, gx_r 7), (1, .inl 2)], [.inl 1, .inl 2], t0, n, 0)) rfl (fun _ => rfl) rfl ?_
      refine ex_go (S := (95, [(0, gx_r 7), (1, .inl 2)], [], t0, n, 0)) rfl (fun _ => rfl) rfl ?_
      refine ex_go (S := (96, [(0, gx_r 7), (1, .inl 2)], [.inl 2], t0, n, 0)) rfl (fun _ => rfl) rfl ?_
      refine ex_go (S := (97, [(0, gx_r 7), (1, .inl 2)], [.inl 2, .inl 2], t0, n, 0)) rfl (fun _ => rfl) rfl ?_
      refine ex_go (S := (100, [(0, gx_r 7), (1, .inl 2)], [], t0, n, 0)) rfl (fun _ => rfl) rfl ?_
      refine ex_go (S := (101, [(0, gx_r 7), (1, .inl 2)], [gx_r 7], t0, n, 0)) rfl (fun _ => rfl) rfl ?_
      refine gxo_ref (a := 7) (c := 1) rfl s0.1 rfl rfl rfl rfl rfl ?_
      refine ex_go (S := (106, [(0, gx_r 7), (1, .inl 2)], [.inl 43, gx_r 1], t0, n, 0)) rfl (fun _ => rfl) rfl ?_
      obtain ⟨_, r102, v102, rfl, q102⟩ := pc_isSign (d) n (s0) hT (by first | decide | omega) (w := 43) (by first | decide | omega)
      refine gx_callo (a := 1) rfl rfl s0.1 rfl rfl rfl r102 rfl ?_
      show en_ex _ _ _ _ (109, [(0, gx_r 7), (1, .inl 2)], [.inl v102], t0, n, 0) _
      by_cases hc3 : v102 = 0
      · refine gx_1t (c := .eq) rfl (by first | decide | omega) hc3 rfl ?_
        refine ex_go (S := (118, [(0, gx_r 7), (1, .inl 2)], [gx_r 7], t0, n, 0)) rfl (fun _ => rfl) rfl ?_
        refine gxo_ref (a := 7) (c := 1) rfl s0.1 rfl rfl rfl rfl rfl ?_
        refine ex_go (S := (123, [(0, gx_r 7), (1, .inl 2)], [.inl 45, gx_r 1], t0, n, 0)) rfl (fun _ => rfl) rfl ?_
        obtain ⟨_, r104, v104, rfl, q104⟩ := pc_isSign (d) n (s0) hT (by first | decide | omega) (w := 45) (by first | decide | omega)
        refine gx_callo (a := 1) rfl rfl s0.1 rfl rfl rfl r104 rfl ?_
        show en_ex _ _ _ _ (126, [(0, gx_r 7), (1, .inl 2)], [.inl v104], t0, n, 0) _
        by_cases hc5 : v104 = 0
        · refine gx_1t (c := .eq) rfl (by first | decide | omega) hc5 rfl ?_
          refine ex_go (S := (135, [(0, gx_r 7), (1, .inl 2)], [.inl 0], t0, n, 0)) rfl (fun _ => rfl) rfl ?_
          refine ex_ret (r := (some (.inl 0), t0, n, 0)) rfl (fun _ => rfl) ?_
          refine ⟨_, rfl, 0, rfl, Or.inl ⟨rfl, fun _ z => ?_⟩⟩
          rcases sp_op_2.mp z with z | z
          · exact absurd (q102.2.mpr z) (by first | decide | omega)
          · exact absurd (q104.2.mpr z) (by first | decide | omega)
        · refine gx_1f (c := .eq) rfl (by first | decide | omega) hc5 rfl ?_
          refine ex_go (S := (131, [(0, gx_r 7), (1, .inl 2)], [.inl 4294967289], t0, n, 0)) rfl (fun _ => rfl) rfl ?_
          refine ex_go (S := (135, [(0, gx_r 7), (1, .inl 2)], [.inl 4294967289], t0, n, 0)) rfl (fun _ => rfl) rfl ?_
          refine ex_ret (r := (some (.inl 4294967289), t0, n, 0)) rfl (fun _ => rfl) ?_
          exact ⟨_, rfl, 4294967289, rfl, Or.inr ⟨by decide, by decide, by omega, sp_op_2.mpr (Or.inr (q104.2.mp (by first | decide | omega))), (oc_45 (q104.2.mp (by first | decide | omega))).symm⟩⟩
      · refine gx_1f (c := .eq) rfl (by first | decide | omega) hc3 rfl ?_
        refine ex_go (S := (114, [(0, gx_r 7), (1, .inl 2)], [.inl 4294967290], t0, n, 0)) rfl (fun _ => rfl) rfl ?_
        refine ex_go (S := (135, [(0, gx_r 7), (1, .inl 2)], [.inl 4294967290], t0, n, 0)) rfl (fun _ => rfl) rfl ?_
        refine ex_ret (r := (some (.inl 4294967290), t0, n, 0)) rfl (fun _ => rfl) ?_
        exact ⟨_, rfl, 4294967290, rfl, Or.inr ⟨by decide, by decide, by omega, sp_op_2.mpr (Or.inl (q102.2.mp (by first | decide | omega))), (oc_43 (q102.2.mp (by first | decide | omega))).symm⟩⟩
    · refine gx_1f (c := .eq) rfl (by first | decide | omega) hc1 rfl ?_
      refine ex_go (S := (11, [(0, gx_r 7), (1, .inl 2)], [.inl 0], t0, n, 0)) rfl (fun _ => rfl) rfl ?_
      refine ex_ret (r := (some (.inl 0), t0, n, 0)) rfl (fun _ => rfl) ?_
      exact ⟨_, rfl, 0, rfl, Or.inl ⟨rfl, fun z => by omega⟩⟩
  · refine ex_go (S := (1, [(0, gx_r 7), (1, .inl 3)], [gx_r 7], t0, n, 0)) rfl (fun _ => rfl) rfl ?_
    refine gxo_ref (a := 7) (c := 1) rfl s0.1 rfl rfl rfl rfl rfl ?_
    refine gxo_get (a := 1) rfl s0.1 rfl rfl s0.2.2.1 rfl ?_
    by_cases hc1 : f = 0
    · refine gx_1t (c := .eq) rfl (by first | decide | omega) hc1 rfl ?_
      refine ex_go (S := (13, [(0, gx_r 7), (1, .inl 3)], [.inl 3], t0, n, 0)) rfl (fun _ => rfl) rfl ?_
      refine ex_go (S := (54, [(0, gx_r 7), (1, .inl 3)], [], t0, n, 0)) rfl (fun _ => rfl) rfl ?_
      refine ex_go (S := (55, [(0, gx_r 7), (1, .inl 3)], [.inl 3], t0, n, 0)) rfl (fun _ => rfl) rfl ?_
      refine ex_go (S := (56, [(0, gx_r 7), (1, .inl 3)], [.inl 1, .inl 3], t0, n, 0)) rfl (fun _ => rfl) rfl ?_
      refine ex_go (S := (95, [(0, gx_r 7), (1, .inl 3)], [], t0, n, 0)) rfl (fun _ => rfl) rfl ?_
      refine ex_go (S := (96, [(0, gx_r 7), (1, .inl 3)], [.inl 3], t0, n, 0)) rfl (fun _ => rfl) rfl ?_
      refine ex_go (S := (97, [(0, gx_r 7), (1, .inl 3)], [.inl 2, .inl 3], t0, n, 0)) rfl (fun _ => rfl) rfl ?_
      refine ex_go (S := (136, [(0, gx_r 7), (1, .inl 3)], [], t0, n, 0)) rfl (fun _ => rfl) rfl ?_
      refine ex_go (S := (137, [(0, gx_r 7), (1, .inl 3)], [gx_r 7], t0, n, 0)) rfl (fun _ => rfl) rfl ?_
      refine gxo_ref (a := 7) (c := 1) rfl s0.1 rfl rfl rfl rfl rfl ?_
      refine ex_go (S := (142, [(0, gx_r 7), (1, .inl 3)], [.inl 42, gx_r 1], t0, n, 0)) rfl (fun _ => rfl) rfl ?_
      obtain ⟨_, r102, v102, rfl, q102⟩ := pc_isSign (d) n (s0) hT (by first | decide | omega) (w := 42) (by first | decide | omega)
      refine gx_callo (a := 1) rfl rfl s0.1 rfl rfl rfl r102 rfl ?_
      show en_ex _ _ _ _ (145, [(0, gx_r 7), (1, .inl 3)], [.inl v102], t0, n, 0) _
      by_cases hc3 : v102 = 0
      · refine gx_1t (c := .eq) rfl (by first | decide | omega) hc3 rfl ?_
        refine ex_go (S := (154, [(0, gx_r 7), (1, .inl 3)], [.inl 0], t0, n, 0)) rfl (fun _ => rfl) rfl ?_
        refine ex_ret (r := (some (.inl 0), t0, n, 0)) rfl (fun _ => rfl) ?_
        exact ⟨_, rfl, 0, rfl, Or.inl ⟨rfl, fun _ z => absurd (q102.2.mpr (sp_op_3.mp z)) (by first | decide | omega)⟩⟩
      · refine gx_1f (c := .eq) rfl (by first | decide | omega) hc3 rfl ?_
        refine ex_go (S := (150, [(0, gx_r 7), (1, .inl 3)], [.inl 4294967288], t0, n, 0)) rfl (fun _ => rfl) rfl ?_
        refine ex_go (S := (154, [(0, gx_r 7), (1, .inl 3)], [.inl 4294967288], t0, n, 0)) rfl (fun _ => rfl) rfl ?_
        refine ex_ret (r := (some (.inl 4294967288), t0, n, 0)) rfl (fun _ => rfl) ?_
        exact ⟨_, rfl, 4294967288, rfl, Or.inr ⟨by decide, by decide, by omega, sp_op_3.mpr (q102.2.mp (by first | decide | omega)), (oc_42 (q102.2.mp (by first | decide | omega))).symm⟩⟩
    · refine gx_1f (c := .eq) rfl (by first | decide | omega) hc1 rfl ?_
      refine ex_go (S := (11, [(0, gx_r 7), (1, .inl 3)], [.inl 0], t0, n, 0)) rfl (fun _ => rfl) rfl ?_
      refine ex_ret (r := (some (.inl 0), t0, n, 0)) rfl (fun _ => rfl) ?_
      exact ⟨_, rfl, 0, rfl, Or.inl ⟨rfl, fun z => by omega⟩⟩
theorem pc_addFact0 (d n : Nat) {t0 : en_H} {a f : Nat} (s0 : cS t0 a f) (hL : cLaw LC) (kL : ai_hv t0 7 2 = some (gx_r LC)) : ∃ r, en_u (d + 2) 285 [gx_r 7, .inr (.inr (.inl none))] t0 n = some r ∧ ∃ t', r = (none, t', n, 0) ∧ cS t' a f ∧ cG LC t0 t' := by
  have b0 := s0.2.2.2
  refine en_u_ex (d := d + 1) rfl ?_
  show en_ex _ _ _ _ (0, [(0, gx_r 7), (1, .inr (.inr (.inl none)))], [], t0, n, 0) _
  refine ex_go (S := (1, [(0, gx_r 7), (1, .inr (.inr (.inl none)))], [.inr (.inr (.inl none))], t0, n, 0)) rfl (fun _ => rfl) rfl ?_
  refine ex_go (S := (15, [(0, gx_r 7), (1, .inr (.inr (.inl none)))], [], t0, n, 0)) rfl (fun _ => rfl) rfl ?_
  refine ex_ret (r := (none, t0, n, 0)) rfl (fun _ => rfl) ?_
  exact ⟨_, rfl, t0, rfl, s0, (fun c i h => rfl)⟩
theorem pc_addFact1 (d n : Nat) {t0 : en_H} {a f w : Nat} (s0 : cS t0 a f) (hw : w < 42) (hL : cLaw LC) (kL : ai_hv t0 7 2 = some (gx_r LC)) : ∃ r, en_u (d + 2) 285 [gx_r 7, gx_w w] t0 n = some r ∧ ∃ t', r = (none, t', n, 0) ∧ cS t' a f ∧ cG LC t0 t' ∧ ∃ s, ai_hv t0 LC 2 = some (.inl s) ∧ s ≤ 1000 ∧ (s < 1000 → cLs t0 t' LC s [wd_r w]) := by
  have b0 := s0.2.2.2
  refine en_u_ex (d := d + 1) rfl ?_
  show en_ex _ _ _ _ (0, [(0, gx_r 7), (1, gx_w w)], [], t0, n, 0) _
  refine ex_go (S := (1, [(0, gx_r 7), (1, gx_w w)], [gx_w w], t0, n, 0)) rfl (fun _ => rfl) rfl ?_
  refine ex_go (S := (4, [(0, gx_r 7), (1, gx_w w)], [], t0, n, 0)) rfl (fun _ => rfl) rfl ?_
  refine ex_go (S := (5, [(0, gx_r 7), (1, gx_w w)], [gx_r 7], t0, n, 0)) rfl (fun _ => rfl) rfl ?_
  refine gxo_get (a := 7) rfl s0.1 rfl rfl kL rfl ?_
  refine ex_go (S := (9, [(0, gx_r 7), (1, gx_w w)], [gx_w w, gx_r LC], t0, n, 0)) rfl (fun _ => rfl) rfl ?_
  refine gx_wrnk rfl rfl (by first | decide | omega) rfl ?_
  have hrr := wd_rle (w := w) hw
  obtain ⟨⟨hLa, hLb⟩, ⟨gL101, hgL101, hkL101⟩, hadd101⟩ := id hL
  obtain ⟨t101, r101, g101, e101, z101, kz101, hz101, cz101⟩ := hadd101 (d) n (wd_r w) t0 s0.1 (by first | decide | omega)
  refine gx_callo (a := LC) rfl rfl s0.1 hgL101 hkL101 rfl r101 rfl ?_
  have k2 : ai_hv t101 7 2 = some (gx_r LC) := (e101 7 2 (by first | decide | omega)).trans kL
  have s101 : cS t101 a f := ⟨g101, (e101 1 8 (by first | decide | omega)).trans s0.2.1, (e101 1 1 (by first | decide | omega)).trans s0.2.2.1, s0.2.2.2⟩
  show en_ex _ _ _ _ (15, [(0, gx_r 7), (1, gx_w w)], [], t101, n, 0) _
  refine ex_ret (r := (none, t101, n, 0)) rfl (fun _ => rfl) ?_
  exact ⟨_, rfl, t101, rfl, s101, (fun c i h => e101 c i (by first | decide | omega)), z101, kz101, hz101, cz101⟩
noncomputable def cE (S : Nat → Nat) (m N fh LC y e : Nat) (t : en_H) (a f : Nat) (t' : en_H) (a' f' : Nat) : Prop := ∀ s, ai_hv t LC 2 = some (.inl s) → s ≤ a → f' = 0 → ∃ L, Ec S m N fh y e (a, f) L ∧ L.length + a ≤ a' ∧ cLs t t' LC s L
noncomputable def cX (S : Nat → Nat) (m N fh LC y e : Nat) (t : en_H) (a f : Nat) (t' : en_H) (a' f' : Nat) : Prop := cS t' a' f' ∧ cG LC t t' ∧ Ev S m N fh y e (a, f) (a', f') ∧ a' ≤ N ∧ a ≤ a' ∧ (f' = 0 → f = 0 ∧ a < a') ∧ cE S m N fh LC y e t a f t' a' f'
noncomputable def cRL (S : Nat → Nat) (m N fh lw LC d l e : Nat) : Prop := ∀ (n : Nat) (t : en_H) (a f : Nat), cS t a f → cT t S m N → a ≤ N → ai_hv t 7 2 = some (gx_r LC) → ai_hv t 7 3 = some (gx_w lw) → ∃ r, en_u d 270 [gx_r 7, .inl l, .inl e] t n = some r ∧ ∃ t' a' f', r = (none, t', n, 0) ∧ cX S m N fh LC l e t a f t' a' f'
noncomputable def cRP (S : Nat → Nat) (m N fh lw LC d e : Nat) : Prop := ∀ (n : Nat) (t : en_H) (a f : Nat), cS t a f → cT t S m N → a ≤ N → ai_hv t 7 2 = some (gx_r LC) → ai_hv t 7 3 = some (gx_w lw) → ∃ r, en_u d 280 [gx_r 7, .inl e] t n = some r ∧ ∃ t' a' f', r = (none, t', n, 0) ∧ cX S m N fh LC 4 e t a f t' a' f'
/-- a level with an operator that had a fault or ended stays where the first part left it -/
theorem Ev_fz {y e a f : Nat} {q : Nat × Nat} (hf : f ≠ 0) (h : Ev S m N fh y e (a, f) q) : q = (a, f) := Ev_det h (Ev_no hf)
theorem sp_op_lt {l a : Nat} (h : sp_op S m N l a) : a < N := by
  rcases h with ⟨_, h | h⟩ | ⟨_, h | h⟩ | ⟨_, h | h⟩ | ⟨_, h⟩ <;> exact h.1
theorem pc_level4 {l e : Nat} (hL : cLaw LC) (h : ∀ d, cRP S m N fh lw LC (d + l + 3) e) (d : Nat) : cRL S m N fh lw LC (d + l + 4) 4 e := by
  intro n t0 a f s0 hT ha kL kW
  have b0 := s0.2.2.2
  refine en_u_ex (d := d + l + 3) rfl ?_
  show en_ex _ _ _ _ (0, [(0, gx_r 7), (1, .inl 4), (2, .inl e)], [], t0, n, 0) _
  refine ex_go (S := (1, [(0, gx_r 7), (1, .inl 4), (2, .inl e)], [.inl 4], t0, n, 0)) rfl (fun _ => rfl) rfl ?_
  refine ex_go (S := (2, [(0, gx_r 7), (1, .inl 4), (2, .inl e)], [.inl 4, .inl 4], t0, n, 0)) rfl (fun _ => rfl) rfl ?_
  refine ex_go (S := (5, [(0, gx_r 7), (1, .inl 4), (2, .inl e)], [], t0, n, 0)) rfl (fun _ => rfl) rfl ?_
  refine ex_go (S := (6, [(0, gx_r 7), (1, .inl 4), (2, .inl e)], [gx_r 7], t0, n, 0)) rfl (fun _ => rfl) rfl ?_
  refine ex_go (S := (7, [(0, gx_r 7), (1, .inl 4), (2, .inl e)], [.inl e, gx_r 7], t0, n, 0)) rfl (fun _ => rfl) rfl ?_
  obtain ⟨_, r101, t101, a101, f101, rfl, s101, e101, w101, q101⟩ := h d n _ _ _ s0 hT (by first | decide | omega) kL kW
  have b101 := s101.2.2.2
  obtain ⟨⟨hLa101, hLb101⟩, -⟩ := id hL
  refine gx_callo (a := 7) rfl rfl s0.1 rfl rfl rfl r101 rfl ?_
  have k2 : ai_hv t101 7 2 = some (gx_r LC) := (e101 7 2 (by first | decide | omega)).trans kL
  have k3 : ai_hv t101 7 3 = some (gx_w lw) := (e101 7 3 (by first | decide | omega)).trans kW
  show en_ex _ _ _ _ (10, [(0, gx_r 7), (1, .inl 4), (2, .inl e)], [], t101, n, 0) _
  refine ex_ret (r := (none, t101, n, 0)) rfl (fun _ => rfl) ?_
  exact ⟨_, rfl, t101, a101, f101, rfl, s101, e101, w101, q101⟩
theorem pc_level3_l {l e : Nat} (hL : cLaw LC) (h : ∀ d, cRL S m N fh lw LC (d + l + 4) 4 e) (d n : Nat) {tb : en_H} : ∀ j i t0 a f lx, (lx = [] ∨ ∃ b, lx = [(5, .inl b)]) → i + j = 1000 → i ≤ a → cS t0 a f → cG LC tb t0 → cT t0 S m N → a ≤ N → ai_hv t0 7 2 = some (gx_r LC) → ai_hv t0 7 3 = some (gx_w lw) → en_ex none (en_u (d + l + 4)) (en_code 270) (fun _ => false) (35, (4, .inl i) :: (lx ++ [(3, .inl 1000), (0, gx_r 7), (1, .inl 3), (2, .inl e)]), [], t0, n, 0) (fun o => ∃ r, o = .inl r ∧ ∃ t' a' f', r = (none, t', n, 0) ∧ cS t' a' f' ∧ cG LC tb t' ∧ Ev S m N fh 8 e (a, f) (a', f') ∧ a' ≤ N ∧ a ≤ a' ∧ (f' = 0 → f = 0) ∧ cE S m N fh LC 8 e t0 a f t' a' f') := by
  intro j
  induction j with
  | zero =>
    intro i t0 a f lx hlx hi hia s0 hG0 hT ha kL kW
    have b0 := s0.2.2.2
    have hN := hT.2.2.2.2.2.2.1
    rcases hlx with rfl | ⟨bx, rfl⟩
    · show en_ex _ _ _ _ (35, [(4, .inl i), (3, .inl 1000), (0, gx_r 7), (1, .inl 3), (2, .inl e)], [], t0, n, 0) _
      refine ex_go (S := (37, [(4, .inl i), (3, .inl 1000), (0, gx_r 7), (1, .inl 3), (2, .inl e)], [.inl i], t0, n, 0)) rfl (fun _ => rfl) rfl ?_
      refine ex_go (S := (38, [(4, .inl i), (3, .inl 1000), (0, gx_r 7), (1, .inl 3), (2, .inl e)], [.inl 1000, .inl i], t0, n, 0)) rfl (fun _ => rfl) rfl ?_
      refine gx_2t (c := .ge) rfl (by first | decide | omega) (by first | decide | omega) (show 1000 ≤ i from by omega) rfl ?_
      refine ex_ret (r := (none, t0, n, 0)) rfl (fun _ => rfl) ?_
      exact ⟨_, rfl, t0, a, f, rfl, s0, (fun c i h => hG0 c i h), Ev_exit (by first | decide | omega) (fun _ z => by have hz := sp_op_lt z; omega), by omega, by omega, fun z => z, fun s9 h9 _ z => ⟨[], Ec_exit (by first | decide | omega) (fun _ z => by have hz := sp_op_lt z; omega) (by first | decide | omega), by show 0 + a ≤ _; omega, cLs_nil h9 (rfl) (fun j => rfl)⟩⟩
    · show en_ex _ _ _ _ (35, [(4, .inl i), (5, .inl bx), (3, .inl 1000), (0, gx_r 7), (1, .inl 3), (2, .inl e)], [], t0, n, 0) _
      refine ex_go (S := (37, [(4, .inl i), (5, .inl bx), (3, .inl 1000), (0, gx_r 7), (1, .inl 3), (2, .inl e)], [.inl i], t0, n, 0)) rfl (fun _ => rfl) rfl ?_
      refine ex_go (S := (38, [(4, .inl i), (5, .inl bx), (3, .inl 1000), (0, gx_r 7), (1, .inl 3), (2, .inl e)], [.inl 1000, .inl i], t0, n, 0)) rfl (fun _ => rfl) rfl ?_
      refine gx_2t (c := .ge) rfl (by first | decide | omega) (by first | decide | omega) (show 1000 ≤ i from by omega) rfl ?_
      refine ex_ret (r := (none, t0, n, 0)) rfl (fun _ => rfl) ?_
      exact ⟨_, rfl, t0, a, f, rfl, s0, (fun c i h => hG0 c i h), Ev_exit (by first | decide | omega) (fun _ z => by have hz := sp_op_lt z; omega), by omega, by omega, fun z => z, fun s9 h9 _ z => ⟨[], Ec_exit (by first | decide | omega) (fun _ z => by have hz := sp_op_lt z; omega) (by first | decide | omega), by show 0 + a ≤ _; omega, cLs_nil h9 (rfl) (fun j => rfl)⟩⟩
  | succ j ih =>
    intro i t0 a f lx hlx hi hia s0 hG0 hT ha kL kW
    have b0 := s0.2.2.2
    have hN := hT.2.2.2.2.2.2.1
    rcases hlx with rfl | ⟨bx, rfl⟩
    · show en_ex _ _ _ _ (35, [(4, .inl i), (3, .inl 1000), (0, gx_r 7), (1, .inl 3), (2, .inl e)], [], t0, n, 0) _
      refine ex_go (S := (37, [(4, .inl i), (3, .inl 1000), (0, gx_r 7), (1, .inl 3), (2, .inl e)], [.inl i], t0, n, 0)) rfl (fun _ => rfl) rfl ?_
      refine ex_go (S := (38, [(4, .inl i), (3, .inl 1000), (0, gx_r 7), (1, .inl 3), (2, .inl e)], [.inl 1000, .inl i], t0, n, 0)) rfl (fun _ => rfl) rfl ?_
      refine gx_2f (c := .ge) rfl (by first | decide | omega) (by first | decide | omega) (show ¬ (1000 ≤ i) from by omega) rfl ?_
      refine ex_go (S := (42, [(4, .inl i), (3, .inl 1000), (0, gx_r 7), (1, .inl 3), (2, .inl e)], [gx_r 7], t0, n, 0)) rfl (fun _ => rfl) rfl ?_
      refine ex_go (S := (43, [(4, .inl i), (3, .inl 1000), (0, gx_r 7), (1, .inl 3), (2, .inl e)], [.inl 3, gx_r 7], t0, n, 0)) rfl (fun _ => rfl) rfl ?_
      obtain ⟨_, r1, b2, rfl, q3⟩ := pc_operatorHere (d + l + 2) n (s0) hT (by first | decide | omega) (l := 3) (by first | decide | omega)
      rcases q3 with ⟨q3a, q3b⟩ | ⟨q3a, q3b, q3c, q3d, q3e⟩
      · subst q3a
        refine gx_callo (a := 7) rfl rfl s0.1 rfl rfl rfl r1 rfl ?_
        show en_ex _ _ _ _ (46, [(4, .inl i), (3, .inl 1000), (0, gx_r 7), (1, .inl 3), (2, .inl e)], [.inl 0], t0, n, 0) _
        refine ex_go (S := (48, [(5, .inl 0), (4, .inl i), (3, .inl 1000), (0, gx_r 7), (1, .inl 3), (2, .inl e)], [], t0, n, 0)) rfl (fun _ => rfl) rfl ?_
        refine ex_go (S := (50, [(5, .inl 0), (4, .inl i), (3, .inl 1000), (0, gx_r 7), (1, .inl 3), (2, .inl e)], [.inl 0], t0, n, 0)) rfl (fun _ => rfl) rfl ?_
        refine ex_go (S := (53, [(5, .inl 0), (4, .inl i), (3, .inl 1000), (0, gx_r 7), (1, .inl 3), (2, .inl e)], [], t0, n, 0)) rfl (fun _ => rfl) rfl ?_
        refine ex_ret (r := (none, t0, n, 0)) rfl (fun _ => rfl) ?_
        exact ⟨_, rfl, t0, a, f, rfl, s0, (fun c i h => hG0 c i h), Ev_exit (by first | decide | omega) q3b, by omega, by omega, fun z => z, fun s9 h9 _ z => ⟨[], Ec_exit (by first | decide | omega) q3b (by first | decide | omega), by show 0 + a ≤ _; omega, cLs_nil h9 (rfl) (fun j => rfl)⟩⟩
      · refine gx_callo (a := 7) rfl rfl s0.1 rfl rfl rfl r1 rfl ?_
        show en_ex _ _ _ _ (46, [(4, .inl i), (3, .inl 1000), (0, gx_r 7), (1, .inl 3), (2, .inl e)], [.inl b2], t0, n, 0) _
        refine ex_go (S := (48, [(5, .inl b2), (4, .inl i), (3, .inl 1000), (0, gx_r 7), (1, .inl 3), (2, .inl e)], [], t0, n, 0)) rfl (fun _ => rfl) rfl ?_
        refine ex_go (S := (50, [(5, .inl b2), (4, .inl i), (3, .inl 1000), (0, gx_r 7), (1, .inl 3), (2, .inl e)], [.inl b2], t0, n, 0)) rfl (fun _ => rfl) rfl ?_
        refine gx_negt (c := .ne) rfl (by first | decide | omega) (by first | decide | omega) rfl rfl ?_
        refine ex_go (S := (55, [(5, .inl b2), (4, .inl i), (3, .inl 1000), (0, gx_r 7), (1, .inl 3), (2, .inl e)], [gx_r 7], t0, n, 0)) rfl (fun _ => rfl) rfl ?_
        refine gxo_ref (a := 7) (c := 1) rfl s0.1 rfl rfl rfl rfl rfl ?_
        have hltq3 := sp_op_lt q3d
        obtain ⟨_, r104, t104, a104, f104, rfl, s104, e104, q104⟩ := pc_goOn (d + l + 3) n (s0) hT (by first | decide | omega) 
        have b104 := s104.2.2.2
        refine gx_callo (a := 1) rfl rfl s0.1 rfl rfl rfl r104 rfl ?_
        have k5 : ai_hv t104 7 2 = some (gx_r LC) := (e104 7 2 (by first | decide | omega)).trans kL
        have k6 : ai_hv t104 7 3 = some (gx_w lw) := (e104 7 3 (by first | decide | omega)).trans kW
        show en_ex _ _ _ _ (61, [(5, .inl b2), (4, .inl i), (3, .inl 1000), (0, gx_r 7), (1, .inl 3), (2, .inl e)], [], t104, n, 0) _
        refine ex_go (S := (62, [(5, .inl b2), (4, .inl i), (3, .inl 1000), (0, gx_r 7), (1, .inl 3), (2, .inl e)], [gx_r 7], t104, n, 0)) rfl (fun _ => rfl) rfl ?_
        refine ex_go (S := (63, [(5, .inl b2), (4, .inl i), (3, .inl 1000), (0, gx_r 7), (1, .inl 3), (2, .inl e)], [.inl 3, gx_r 7], t104, n, 0)) rfl (fun _ => rfl) rfl ?_
        refine ex_go (S := (64, [(5, .inl b2), (4, .inl i), (3, .inl 1000), (0, gx_r 7), (1, .inl 3), (2, .inl e)], [.inl 1, .inl 3, gx_r 7], t104, n, 0)) rfl (fun _ => rfl) rfl ?_
        refine ex_go (S := (65, [(5, .inl b2), (4, .inl i), (3, .inl 1000), (0, gx_r 7), (1, .inl 3), (2, .inl e)], [.inl 4, gx_r 7], t104, n, 0)) rfl (fun _ => rfl) rfl ?_
        refine ex_go (S := (66, [(5, .inl b2), (4, .inl i), (3, .inl 1000), (0, gx_r 7), (1, .inl 3), (2, .inl e)], [.inl e, .inl 4, gx_r 7], t104, n, 0)) rfl (fun _ => rfl) rfl ?_
        have hT8 := cT_keep (t' := t104) hT (fun c i h => e104 c i (by first | decide | omega))
        obtain ⟨_, r107, t107, a107, f107, rfl, s107, e107, w107, q107⟩ := h d n _ _ _ s104 hT8 (by first | decide | omega) k5 k6
        have b107 := s107.2.2.2
        obtain ⟨⟨hLa107, hLb107⟩, -⟩ := id hL
        refine gx_callo (a := 7) rfl rfl s104.1 rfl rfl rfl r107 rfl ?_
        have k9 : ai_hv t107 7 2 = some (gx_r LC) := (e107 7 2 (by first | decide | omega)).trans k5
        have k10 : ai_hv t107 7 3 = some (gx_w lw) := (e107 7 3 (by first | decide | omega)).trans k6
        show en_ex _ _ _ _ (69, [(5, .inl b2), (4, .inl i), (3, .inl 1000), (0, gx_r 7), (1, .inl 3), (2, .inl e)], [], t107, n, 0) _
        refine ex_go (S := (70, [(5, .inl b2), (4, .inl i), (3, .inl 1000), (0, gx_r 7), (1, .inl 3), (2, .inl e)], [gx_r 7], t107, n, 0)) rfl (fun _ => rfl) rfl ?_
        refine gxo_get (a := 7) rfl s107.1 rfl rfl k9 rfl ?_
        refine ex_go (S := (75, [(5, .inl b2), (4, .inl i), (3, .inl 1000), (0, gx_r 7), (1, .inl 3), (2, .inl e)], [.inl b2, gx_r LC], t107, n, 0)) rfl (fun _ => rfl) rfl ?_
        obtain ⟨⟨hLa, hLb⟩, ⟨gL111, hgL111, hkL111⟩, hadd111⟩ := id hL
        obtain ⟨t111, r111, g111, e111, z111, kz111, hz111, cz111⟩ := hadd111 (d + l + 3) n b2 t107 s107.1 (by first | decide | omega)
        refine gx_callo (a := LC) rfl rfl s107.1 hgL111 hkL111 rfl r111 rfl ?_
        have k12 : ai_hv t111 7 2 = some (gx_r LC) := (e111 7 2 (by first | decide | omega)).trans k9
        have k13 : ai_hv t111 7 3 = some (gx_w lw) := (e111 7 3 (by first | decide | omega)).trans k10
        have s111 : cS t111 a107 f107 := ⟨g111, (e111 1 8 (by first | decide | omega)).trans s107.2.1, (e111 1 1 (by first | decide | omega)).trans s107.2.2.1, s107.2.2.2⟩
        show en_ex _ _ _ _ (78, [(5, .inl b2), (4, .inl i), (3, .inl 1000), (0, gx_r 7), (1, .inl 3), (2, .inl e)], [], t111, n, 0) _
        refine gx_iinc (i := 4) (k := 1) rfl (fun _ => rfl) (by first | decide | omega) rfl ?_
        show en_ex _ _ _ _ (81, [(4, .inl (i + 1)), (5, .inl b2), (3, .inl 1000), (0, gx_r 7), (1, .inl 3), (2, .inl e)], [], t111, n, 0) _
        refine ex_go (S := (35, [(4, .inl (i + 1)), (5, .inl b2), (3, .inl 1000), (0, gx_r 7), (1, .inl 3), (2, .inl e)], [], t111, n, 0)) rfl (fun _ => rfl) rfl ?_
        have hf0 : f = 0 := q3c
        have w9 : Ev S m N fh 4 e (a + 1, 0) (a107, f107) := Ev_at w107 (by show a104 = a + 1; omega) (by show f104 = 0; omega)
        subst hf0
        have hT14 := cT_keep (t' := t111) hT (fun c i h => (e111 c i (by first | decide | omega)).trans ((e107 c i (by first | decide | omega)).trans (e104 c i (by first | decide | omega))))
        refine ex_imp (fun o9 h9 => ?_) (ih (i + 1) t111 a107 f107 [(5, .inl b2)] (Or.inr ⟨_, rfl⟩) (by first | decide | omega) (by first | decide | omega) s111 (fun c i h => ((e111 c i (by first | decide | omega)).trans ((e107 c i (by first | decide | omega)).trans (e104 c i (by first | decide | omega)))).trans (hG0 c i h)) hT14 (by first | decide | omega) k12 k13)
        obtain ⟨r9, g0, t9, a9, f9, g1, g2, g3, g4, g5, g6, g7, g8⟩ := h9
        refine ⟨r9, g0, t9, a9, f9, g1, g2, g3, Ev_more (by first | decide | omega) (by first | decide | omega) q3d w9 g4, g5, by omega, (fun _ => rfl), fun s9 hs9 hsa hf9 => ?_⟩
        have hf1 := g7 hf9
        obtain ⟨L1, c1, l1, m1⟩ := q107.2.2.2 s9 ((e104 LC 2 (by first | decide | omega)).trans hs9) (by first | decide | omega) (by first | decide | omega)
        have c1 := Ec_at (p' := (a + 1, 0)) c1 (by show a104 = a + 1; omega) (by first | rfl | (show f104 = 0; omega))
        have hz9 : z111 = s9 + L1.length := Sum.inl.inj (Option.some.inj (kz111.symm.trans m1.1))
        have m3 := cz111 (by first | decide | omega)
        rw [hz9] at m3
        obtain ⟨L2, c2, l2, m2⟩ := g8 (s9 + L1.length + 1) m3.1 (by first | decide | omega) hf9
        have m3 := cLs_then m3 (rfl) (fun j => rfl)
        refine ⟨L1 ++ ([sp_oc S m N a] ++ L2), Ec_more (by first | decide | omega) (by first | decide | omega) q3d w9 c1 c2, ?_, ?_⟩
        · rw [List.length_append, List.length_append]
          show L1.length + (1 + L2.length) + a ≤ a9
          omega
        · rw [q3e] at m3
          exact cLs_app (cLs_pre (fun j => e104 (LC + 2) j (by first | decide | omega)) m1) (cLs_app m3 m2)
    · show en_ex _ _ _ _ (35, [(4, .inl i), (5, .inl bx), (3, .inl 1000), (0, gx_r 7), (1, .inl 3), (2, .inl e)], [], t0, n, 0) _
      refine ex_go (S := (37, [(4, .inl i), (5, .inl bx), (3, .inl 1000), (0, gx_r 7), (1, .inl 3), (2, .inl e)], [.inl i], t0, n, 0)) rfl (fun _ => rfl) rfl ?_
      refine ex_go (S := (38, [(4, .inl i), (5, .inl bx), (3, .inl 1000), (0, gx_r 7), (1, .inl 3), (2, .inl e)], [.inl 1000, .inl i], t0, n, 0)) rfl (fun _ => rfl) rfl ?_
      refine gx_2f (c := .ge) rfl (by first | decide | omega) (by first | decide | omega) (show ¬ (1000 ≤ i) from by omega) rfl ?_
      refine ex_go (S := (42, [(4, .inl i), (5, .inl bx), (3, .inl 1000), (0, gx_r 7), (1, .inl 3), (2, .inl e)], [gx_r 7], t0, n, 0)) rfl (fun _ => rfl) rfl ?_
      refine ex_go (S := (43, [(4, .inl i), (5, .inl bx), (3, .inl 1000), (0, gx_r 7), (1, .inl 3), (2, .inl e)], [.inl 3, gx_r 7], t0, n, 0)) rfl (fun _ => rfl) rfl ?_
      obtain ⟨_, r1, b2, rfl, q3⟩ := pc_operatorHere (d + l + 2) n (s0) hT (by first | decide | omega) (l := 3) (by first | decide | omega)
      rcases q3 with ⟨q3a, q3b⟩ | ⟨q3a, q3b, q3c, q3d, q3e⟩
      · subst q3a
        refine gx_callo (a := 7) rfl rfl s0.1 rfl rfl rfl r1 rfl ?_
        show en_ex _ _ _ _ (46, [(4, .inl i), (5, .inl bx), (3, .inl 1000), (0, gx_r 7), (1, .inl 3), (2, .inl e)], [.inl 0], t0, n, 0) _
        refine ex_go (S := (48, [(5, .inl 0), (4, .inl i), (3, .inl 1000), (0, gx_r 7), (1, .inl 3), (2, .inl e)], [], t0, n, 0)) rfl (fun _ => rfl) rfl ?_
        refine ex_go (S := (50, [(5, .inl 0), (4, .inl i), (3, .inl 1000), (0, gx_r 7), (1, .inl 3), (2, .inl e)], [.inl 0], t0, n, 0)) rfl (fun _ => rfl) rfl ?_
        refine ex_go (S := (53, [(5, .inl 0), (4, .inl i), (3, .inl 1000), (0, gx_r 7), (1, .inl 3), (2, .inl e)], [], t0, n, 0)) rfl (fun _ => rfl) rfl ?_
        refine ex_ret (r := (none, t0, n, 0)) rfl (fun _ => rfl) ?_
        exact ⟨_, rfl, t0, a, f, rfl, s0, (fun c i h => hG0 c i h), Ev_exit (by first | decide | omega) q3b, by omega, by omega, fun z => z, fun s9 h9 _ z => ⟨[], Ec_exit (by first | decide | omega) q3b (by first | decide | omega), by show 0 + a ≤ _; omega, cLs_nil h9 (rfl) (fun j => rfl)⟩⟩
      · refine gx_callo (a := 7) rfl rfl s0.1 rfl rfl rfl r1 rfl ?_
        show en_ex _ _ _ _ (46, [(4, .inl i), (5, .inl bx), (3, .inl 1000), (0, gx_r 7), (1, .inl 3), (2, .inl e)], [.inl b2], t0, n, 0) _
        refine ex_go (S := (48, [(5, .inl b2), (4, .inl i), (3, .inl 1000), (0, gx_r 7), (1, .inl 3), (2, .inl e)], [], t0, n, 0)) rfl (fun _ => rfl) rfl ?_
        refine ex_go (S := (50, [(5, .inl b2), (4, .inl i), (3, .inl 1000), (0, gx_r 7), (1, .inl 3), (2, .inl e)], [.inl b2], t0, n, 0)) rfl (fun _ => rfl) rfl ?_
        refine gx_negt (c := .ne) rfl (by first | decide | omega) (by first | decide | omega) rfl rfl ?_
        refine ex_go (S := (55, [(5, .inl b2), (4, .inl i), (3, .inl 1000), (0, gx_r 7), (1, .inl 3), (2, .inl e)], [gx_r 7], t0, n, 0)) rfl (fun _ => rfl) rfl ?_
        refine gxo_ref (a := 7) (c := 1) rfl s0.1 rfl rfl rfl rfl rfl ?_
        have hltq3 := sp_op_lt q3d
        obtain ⟨_, r104, t104, a104, f104, rfl, s104, e104, q104⟩ := pc_goOn (d + l + 3) n (s0) hT (by first | decide | omega) 
        have b104 := s104.2.2.2
        refine gx_callo (a := 1) rfl rfl s0.1 rfl rfl rfl r104 rfl ?_
        have k5 : ai_hv t104 7 2 = some (gx_r LC) := (e104 7 2 (by first | decide | omega)).trans kL
        have k6 : ai_hv t104 7 3 = some (gx_w lw) := (e104 7 3 (by first | decide | omega)).trans kW
        show en_ex _ _ _ _ (61, [(5, .inl b2), (4, .inl i), (3, .inl 1000), (0, gx_r 7), (1, .inl 3), (2, .inl e)], [], t104, n, 0) _
        refine ex_go (S := (62, [(5, .inl b2), (4, .inl i), (3, .inl 1000), (0, gx_r 7), (1, .inl 3), (2, .inl e)], [gx_r 7], t104, n, 0)) rfl (fun _ => rfl) rfl ?_
        refine ex_go (S := (63, [(5, .inl b2), (4, .inl i), (3, .inl 1000), (0, gx_r 7), (1, .inl 3), (2, .inl e)], [.inl 3, gx_r 7], t104, n, 0)) rfl (fun _ => rfl) rfl ?_
        refine ex_go (S := (64, [(5, .inl b2), (4, .inl i), (3, .inl 1000), (0, gx_r 7), (1, .inl 3), (2, .inl e)], [.inl 1, .inl 3, gx_r 7], t104, n, 0)) rfl (fun _ => rfl) rfl ?_
        refine ex_go (S := (65, [(5, .inl b2), (4, .inl i), (3, .inl 1000), (0, gx_r 7), (1, .inl 3), (2, .inl e)], [.inl 4, gx_r 7], t104, n, 0)) rfl (fun _ => rfl) rfl ?_
        refine ex_go (S := (66, [(5, .inl b2), (4, .inl i), (3, .inl 1000), (0, gx_r 7), (1, .inl 3), (2, .inl e)], [.inl e, .inl 4, gx_r 7], t104, n, 0)) rfl (fun _ => rfl) rfl ?_
        have hT8 := cT_keep (t' := t104) hT (fun c i h => e104 c i (by first | decide | omega))
        obtain ⟨_, r107, t107, a107, f107, rfl, s107, e107, w107, q107⟩ := h d n _ _ _ s104 hT8 (by first | decide | omega) k5 k6
        have b107 := s107.2.2.2
        obtain ⟨⟨hLa107, hLb107⟩, -⟩ := id hL
        refine gx_callo (a := 7) rfl rfl s104.1 rfl rfl rfl r107 rfl ?_
        have k9 : ai_hv t107 7 2 = some (gx_r LC) := (e107 7 2 (by first | decide | omega)).trans k5
        have k10 : ai_hv t107 7 3 = some (gx_w lw) := (e107 7 3 (by first | decide | omega)).trans k6
        show en_ex _ _ _ _ (69, [(5, .inl b2), (4, .inl i), (3, .inl 1000), (0, gx_r 7), (1, .inl 3), (2, .inl e)], [], t107, n, 0) _
        refine ex_go (S := (70, [(5, .inl b2), (4, .inl i), (3, .inl 1000), (0, gx_r 7), (1, .inl 3), (2, .inl e)], [gx_r 7], t107, n, 0)) rfl (fun _ => rfl) rfl ?_
        refine gxo_get (a := 7) rfl s107.1 rfl rfl k9 rfl ?_
        refine ex_go (S := (75, [(5, .inl b2), (4, .inl i), (3, .inl 1000), (0, gx_r 7), (1, .inl 3), (2, .inl e)], [.inl b2, gx_r LC], t107, n, 0)) rfl (fun _ => rfl) rfl ?_
        obtain ⟨⟨hLa, hLb⟩, ⟨gL111, hgL111, hkL111⟩, hadd111⟩ := id hL
        obtain ⟨t111, r111, g111, e111, z111, kz111, hz111, cz111⟩ := hadd111 (d + l + 3) n b2 t107 s107.1 (by first | decide | omega)
        refine gx_callo (a := LC) rfl rfl s107.1 hgL111 hkL111 rfl r111 rfl ?_
        have k12 : ai_hv t111 7 2 = some (gx_r LC) := (e111 7 2 (by first | decide | omega)).trans k9
        have k13 : ai_hv t111 7 3 = some (gx_w lw) := (e111 7 3 (by first | decide | omega)).trans k10
        have s111 : cS t111 a107 f107 := ⟨g111, (e111 1 8 (by first | decide | omega)).trans s107.2.1, (e111 1 1 (by first | decide | omega)).trans s107.2.2.1, s107.2.2.2⟩
        show en_ex _ _ _ _ (78, [(5, .inl b2), (4, .inl i), (3, .inl 1000), (0, gx_r 7), (1, .inl 3), (2, .inl e)], [], t111, n, 0) _
        refine gx_iinc (i := 4) (k := 1) rfl (fun _ => rfl) (by first | decide | omega) rfl ?_
        show en_ex _ _ _ _ (81, [(4, .inl (i + 1)), (5, .inl b2), (3, .inl 1000), (0, gx_r 7), (1, .inl 3), (2, .inl e)], [], t111, n, 0) _
        refine ex_go (S := (35, [(4, .inl (i + 1)), (5, .inl b2), (3, .inl 1000), (0, gx_r 7), (1, .inl 3), (2, .inl e)], [], t111, n, 0)) rfl (fun _ => rfl) rfl ?_
        have hf0 : f = 0 := q3c
        have w9 : Ev S m N fh 4 e (a + 1, 0) (a107, f107) := Ev_at w107 (by show a104 = a + 1; omega) (by show f104 = 0; omega)
        subst hf0
        have hT14 := cT_keep (t' := t111) hT (fun c i h => (e111 c i (by first | decide | omega)).trans ((e107 c i (by first | decide | omega)).trans (e104 c i (by first | decide | omega))))
        refine ex_imp (fun o9 h9 => ?_) (ih (i + 1) t111 a107 f107 [(5, .inl b2)] (Or.inr ⟨_, rfl⟩) (by first | decide | omega) (by first | decide | omega) s111 (fun c i h => ((e111 c i (by first | decide | omega)).trans ((e107 c i (by first | decide | omega)).trans (e104 c i (by first | decide | omega)))).trans (hG0 c i h)) hT14 (by first | decide | omega) k12 k13)
        obtain ⟨r9, g0, t9, a9, f9, g1, g2, g3, g4, g5, g6, g7, g8⟩ := h9
        refine ⟨r9, g0, t9, a9, f9, g1, g2, g3, Ev_more (by first | decide | omega) (by first | decide | omega) q3d w9 g4, g5, by omega, (fun _ => rfl), fun s9 hs9 hsa hf9 => ?_⟩
        have hf1 := g7 hf9
        obtain ⟨L1, c1, l1, m1⟩ := q107.2.2.2 s9 ((e104 LC 2 (by first | decide | omega)).trans hs9) (by first | decide | omega) (by first | decide | omega)
        have c1 := Ec_at (p' := (a + 1, 0)) c1 (by show a104 = a + 1; omega) (by first | rfl | (show f104 = 0; omega))
        have hz9 : z111 = s9 + L1.length := Sum.inl.inj (Option.some.inj (kz111.symm.trans m1.1))
        have m3 := cz111 (by first | decide | omega)
        rw [hz9] at m3
        obtain ⟨L2, c2, l2, m2⟩ := g8 (s9 + L1.length + 1) m3.1 (by first | decide | omega) hf9
        have m3 := cLs_then m3 (rfl) (fun j => rfl)
        refine ⟨L1 ++ ([sp_oc S m N a] ++ L2), Ec_more (by first | decide | omega) (by first | decide | omega) q3d w9 c1 c2, ?_, ?_⟩
        · rw [List.length_append, List.length_append]
          show L1.length + (1 + L2.length) + a ≤ a9
          omega
        · rw [q3e] at m3
          exact cLs_app (cLs_pre (fun j => e104 (LC + 2) j (by first | decide | omega)) m1) (cLs_app m3 m2)
theorem pc_level3 {l e : Nat} (hL : cLaw LC) (h : ∀ d, cRL S m N fh lw LC (d + l + 4) 4 e) (d : Nat) : cRL S m N fh lw LC (d + l + 5) 3 e := by
  intro n t0 a f s0 hT ha kL kW
  have b0 := s0.2.2.2
  have hN := hT.2.2.2.2.2.2.1
  refine en_u_ex (d := d + l + 4) rfl ?_
  show en_ex _ _ _ _ (0, [(0, gx_r 7), (1, .inl 3), (2, .inl e)], [], t0, n, 0) _
  refine ex_go (S := (1, [(0, gx_r 7), (1, .inl 3), (2, .inl e)], [.inl 3], t0, n, 0)) rfl (fun _ => rfl) rfl ?_
  refine ex_go (S := (2, [(0, gx_r 7), (1, .inl 3), (2, .inl e)], [.inl 4, .inl 3], t0, n, 0)) rfl (fun _ => rfl) rfl ?_
  refine ex_go (S := (11, [(0, gx_r 7), (1, .inl 3), (2, .inl e)], [], t0, n, 0)) rfl (fun _ => rfl) rfl ?_
  refine ex_go (S := (12, [(0, gx_r 7), (1, .inl 3), (2, .inl e)], [gx_r 7], t0, n, 0)) rfl (fun _ => rfl) rfl ?_
  refine ex_go (S := (13, [(0, gx_r 7), (1, .inl 3), (2, .inl e)], [.inl 3, gx_r 7], t0, n, 0)) rfl (fun _ => rfl) rfl ?_
  refine ex_go (S := (14, [(0, gx_r 7), (1, .inl 3), (2, .inl e)], [.inl 1, .inl 3, gx_r 7], t0, n, 0)) rfl (fun _ => rfl) rfl ?_
  refine ex_go (S := (15, [(0, gx_r 7), (1, .inl 3), (2, .inl e)], [.inl 4, gx_r 7], t0, n, 0)) rfl (fun _ => rfl) rfl ?_
  refine ex_go (S := (16, [(0, gx_r 7), (1, .inl 3), (2, .inl e)], [.inl e, .inl 4, gx_r 7], t0, n, 0)) rfl (fun _ => rfl) rfl ?_
  obtain ⟨_, r101, t101, a101, f101, rfl, s101, e101, w101, q101⟩ := h d n _ _ _ s0 hT (by first | decide | omega) kL kW
  have b101 := s101.2.2.2
  obtain ⟨⟨hLa101, hLb101⟩, -⟩ := id hL
  refine gx_callo (a := 7) rfl rfl s0.1 rfl rfl rfl r101 rfl ?_
  have k2 : ai_hv t101 7 2 = some (gx_r LC) := (e101 7 2 (by first | decide | omega)).trans kL
  have k3 : ai_hv t101 7 3 = some (gx_w lw) := (e101 7 3 (by first | decide | omega)).trans kW
  show en_ex _ _ _ _ (19, [(0, gx_r 7), (1, .inl 3), (2, .inl e)], [], t101, n, 0) _
  refine ex_go (S := (20, [(0, gx_r 7), (1, .inl 3), (2, .inl e)], [.inl 3], t101, n, 0)) rfl (fun _ => rfl) rfl ?_
  refine ex_go (S := (21, [(0, gx_r 7), (1, .inl 3), (2, .inl e)], [.inl 1, .inl 3], t101, n, 0)) rfl (fun _ => rfl) rfl ?_
  refine ex_go (S := (28, [(0, gx_r 7), (1, .inl 3), (2, .inl e)], [], t101, n, 0)) rfl (fun _ => rfl) rfl ?_
  refine ex_go (S := (31, [(0, gx_r 7), (1, .inl 3), (2, .inl e)], [.inl 1000], t101, n, 0)) rfl (fun _ => rfl) rfl ?_
  refine ex_go (S := (32, [(3, .inl 1000), (0, gx_r 7), (1, .inl 3), (2, .inl e)], [], t101, n, 0)) rfl (fun _ => rfl) rfl ?_
  refine ex_go (S := (33, [(3, .inl 1000), (0, gx_r 7), (1, .inl 3), (2, .inl e)], [.inl 0], t101, n, 0)) rfl (fun _ => rfl) rfl ?_
  refine ex_go (S := (35, [(4, .inl 0), (3, .inl 1000), (0, gx_r 7), (1, .inl 3), (2, .inl e)], [], t101, n, 0)) rfl (fun _ => rfl) rfl ?_
  have hT4 := cT_keep (t' := t101) hT (fun c i h => e101 c i (by first | decide | omega))
  refine ex_imp (fun o9 h9 => ?_) (pc_level3_l hL h d n (tb := t0) 1000 0 t101 a101 f101 [] (Or.inl rfl) (by first | decide | omega) (by first | decide | omega) s101 (fun c i h => e101 c i (by first | decide | omega)) hT4 (by first | decide | omega) k2 k3)
  obtain ⟨r9, g0, t9, a9, f9, g1, g2, g3, g4, g5, g6, g7, g8⟩ := h9
  refine ⟨r9, g0, t9, a9, f9, g1, g2, g3, Ev_seq (by first | decide | omega) w101 g4, g5, by omega, (fun z => by have := g7 z; omega), fun s9 hs9 hsa hf9 => ?_⟩
  have hf1 := g7 hf9
  obtain ⟨L1, c1, l1, m1⟩ := q101.2.2.2 s9 hs9 hsa hf1
  obtain ⟨L2, c2, l2, m2⟩ := g8 (s9 + L1.length) m1.1 (by first | decide | omega) hf9
  exact ⟨L1 ++ L2, Ec_seq (by first | decide | omega) (by first | decide | omega) w101 c1 c2, by rw [List.length_append]; omega, cLs_app m1 m2⟩
theorem pc_level2_l {l e : Nat} (hL : cLaw LC) (h : ∀ d, cRL S m N fh lw LC (d + l + 5) 3 e) (d n : Nat) {tb : en_H} : ∀ j i t0 a f lx, (lx = [] ∨ ∃ b, lx = [(5, .inl b)]) → i + j = 1000 → i ≤ a → cS t0 a f → cG LC tb t0 → cT t0 S m N → a ≤ N → ai_hv t0 7 2 = some (gx_r LC) → ai_hv t0 7 3 = some (gx_w lw) → en_ex none (en_u (d + l + 5)) (en_code 270) (fun _ => false) (35, (4, .inl i) :: (lx ++ [(3, .inl 1000), (0, gx_r 7), (1, .inl 2), (2, .inl e)]), [], t0, n, 0) (fun o => ∃ r, o = .inl r ∧ ∃ t' a' f', r = (none, t', n, 0) ∧ cS t' a' f' ∧ cG LC tb t' ∧ Ev S m N fh 7 e (a, f) (a', f') ∧ a' ≤ N ∧ a ≤ a' ∧ (f' = 0 → f = 0) ∧ cE S m N fh LC 7 e t0 a f t' a' f') := by
  intro j
  induction j with
  | zero =>
    intro i t0 a f lx hlx hi hia s0 hG0 hT ha kL kW
    have b0 := s0.2.2.2
    have hN := hT.2.2.2.2.2.2.1
    rcases hlx with rfl | ⟨bx, rfl⟩
    · show en_ex _ _ _ _ (35, [(4, .inl i), (3, .inl 1000), (0, gx_r 7), (1, .inl 2), (2, .inl e)], [], t0, n, 0) _
      refine ex_go (S := (37, [(4, .inl i), (3, .inl 1000), (0, gx_r 7), (1, .inl 2), (2, .inl e)], [.inl i], t0, n, 0)) rfl (fun _ => rfl) rfl ?_
      refine ex_go (S := (38, [(4, .inl i), (3, .inl 1000), (0, gx_r 7), (1, .inl 2), (2, .inl e)], [.inl 1000, .inl i], t0, n, 0)) rfl (fun _ => rfl) rfl ?_
      refine gx_2t (c := .ge) rfl (by first | decide | omega) (by first | decide | omega) (show 1000 ≤ i from by omega) rfl ?_
      refine ex_ret (r := (none, t0, n, 0)) rfl (fun _ => rfl) ?_
      exact ⟨_, rfl, t0, a, f, rfl, s0, (fun c i h => hG0 c i h), Ev_exit (by first | decide | omega) (fun _ z => by have hz := sp_op_lt z; omega), by omega, by omega, fun z => z, fun s9 h9 _ z => ⟨[], Ec_exit (by first | decide | omega) (fun _ z => by have hz := sp_op_lt z; omega) (by first | decide | omega), by show 0 + a ≤ _; omega, cLs_nil h9 (rfl) (fun j => rfl)⟩⟩
    · show en_ex _ _ _ _ (35, [(4, .inl i), (5, .inl bx), (3, .inl 1000), (0, gx_r 7), (1, .inl 2), (2, .inl e)], [], t0, n, 0) _
      refine ex_go (S := (37, [(4, .inl i), (5, .inl bx), (3, .inl 1000), (0, gx_r 7), (1, .inl 2), (2, .inl e)], [.inl i], t0, n, 0)) rfl (fun _ => rfl) rfl ?_
      refine ex_go (S := (38, [(4, .inl i), (5, .inl bx), (3, .inl 1000), (0, gx_r 7), (1, .inl 2), (2, .inl e)], [.inl 1000, .inl i], t0, n, 0)) rfl (fun _ => rfl) rfl ?_
      refine gx_2t (c := .ge) rfl (by first | decide | omega) (by first | decide | omega) (show 1000 ≤ i from by omega) rfl ?_
      refine ex_ret (r := (none, t0, n, 0)) rfl (fun _ => rfl) ?_
      exact ⟨_, rfl, t0, a, f, rfl, s0, (fun c i h => hG0 c i h), Ev_exit (by first | decide | omega) (fun _ z => by have hz := sp_op_lt z; omega), by omega, by omega, fun z => z, fun s9 h9 _ z => ⟨[], Ec_exit (by first | decide | omega) (fun _ z => by have hz := sp_op_lt z; omega) (by first | decide | omega), by show 0 + a ≤ _; omega, cLs_nil h9 (rfl) (fun j => rfl)⟩⟩
  | succ j ih =>
    intro i t0 a f lx hlx hi hia s0 hG0 hT ha kL kW
    have b0 := s0.2.2.2
    have hN := hT.2.2.2.2.2.2.1
    rcases hlx with rfl | ⟨bx, rfl⟩
    · show en_ex _ _ _ _ (35, [(4, .inl i), (3, .inl 1000), (0, gx_r 7), (1, .inl 2), (2, .inl e)], [], t0, n, 0) _
      refine ex_go (S := (37, [(4, .inl i), (3, .inl 1000), (0, gx_r 7), (1, .inl 2), (2, .inl e)], [.inl i], t0, n, 0)) rfl (fun _ => rfl) rfl ?_
      refine ex_go (S := (38, [(4, .inl i), (3, .inl 1000), (0, gx_r 7), (1, .inl 2), (2, .inl e)], [.inl 1000, .inl i], t0, n, 0)) rfl (fun _ => rfl) rfl ?_
      refine gx_2f (c := .ge) rfl (by first | decide | omega) (by first | decide | omega) (show ¬ (1000 ≤ i) from by omega) rfl ?_
      refine ex_go (S := (42, [(4, .inl i), (3, .inl 1000), (0, gx_r 7), (1, .inl 2), (2, .inl e)], [gx_r 7], t0, n, 0)) rfl (fun _ => rfl) rfl ?_
      refine ex_go (S := (43, [(4, .inl i), (3, .inl 1000), (0, gx_r 7), (1, .inl 2), (2, .inl e)], [.inl 2, gx_r 7], t0, n, 0)) rfl (fun _ => rfl) rfl ?_
      obtain ⟨_, r1, b2, rfl, q3⟩ := pc_operatorHere (d + l + 3) n (s0) hT (by first | decide | omega) (l := 2) (by first | decide | omega)
      rcases q3 with ⟨q3a, q3b⟩ | ⟨q3a, q3b, q3c, q3d, q3e⟩
      · subst q3a
        refine gx_callo (a := 7) rfl rfl s0.1 rfl rfl rfl r1 rfl ?_
        show en_ex _ _ _ _ (46, [(4, .inl i), (3, .inl 1000), (0, gx_r 7), (1, .inl 2), (2, .inl e)], [.inl 0], t0, n, 0) _
        refine ex_go (S := (48, [(5, .inl 0), (4, .inl i), (3, .inl 1000), (0, gx_r 7), (1, .inl 2), (2, .inl e)], [], t0, n, 0)) rfl (fun _ => rfl) rfl ?_
        refine ex_go (S := (50, [(5, .inl 0), (4, .inl i), (3, .inl 1000), (0, gx_r 7), (1, .inl 2), (2, .inl e)], [.inl 0], t0, n, 0)) rfl (fun _ => rfl) rfl ?_
        refine ex_go (S := (53, [(5, .inl 0), (4, .inl i), (3, .inl 1000), (0, gx_r 7), (1, .inl 2), (2, .inl e)], [], t0, n, 0)) rfl (fun _ => rfl) rfl ?_
        refine ex_ret (r := (none, t0, n, 0)) rfl (fun _ => rfl) ?_
        exact ⟨_, rfl, t0, a, f, rfl, s0, (fun c i h => hG0 c i h), Ev_exit (by first | decide | omega) q3b, by omega, by omega, fun z => z, fun s9 h9 _ z => ⟨[], Ec_exit (by first | decide | omega) q3b (by first | decide | omega), by show 0 + a ≤ _; omega, cLs_nil h9 (rfl) (fun j => rfl)⟩⟩
      · refine gx_callo (a := 7) rfl rfl s0.1 rfl rfl rfl r1 rfl ?_
        show en_ex _ _ _ _ (46, [(4, .inl i), (3, .inl 1000), (0, gx_r 7), (1, .inl 2), (2, .inl e)], [.inl b2], t0, n, 0) _
        refine ex_go (S := (48, [(5, .inl b2), (4, .inl i), (3, .inl 1000), (0, gx_r 7), (1, .inl 2), (2, .inl e)], [], t0, n, 0)) rfl (fun _ => rfl) rfl ?_
        refine ex_go (S := (50, [(5, .inl b2), (4, .inl i), (3, .inl 1000), (0, gx_r 7), (1, .inl 2), (2, .inl e)], [.inl b2], t0, n, 0)) rfl (fun _ => rfl) rfl ?_
        refine gx_negt (c := .ne) rfl (by first | decide | omega) (by first | decide | omega) rfl rfl ?_
        refine ex_go (S := (55, [(5, .inl b2), (4, .inl i), (3, .inl 1000), (0, gx_r 7), (1, .inl 2), (2, .inl e)], [gx_r 7], t0, n, 0)) rfl (fun _ => rfl) rfl ?_
        refine gxo_ref (a := 7) (c := 1) rfl s0.1 rfl rfl rfl rfl rfl ?_
        have hltq3 := sp_op_lt q3d
        obtain ⟨_, r104, t104, a104, f104, rfl, s104, e104, q104⟩ := pc_goOn (d + l + 4) n (s0) hT (by first | decide | omega) 
        have b104 := s104.2.2.2
        refine gx_callo (a := 1) rfl rfl s0.1 rfl rfl rfl r104 rfl ?_
        have k5 : ai_hv t104 7 2 = some (gx_r LC) := (e104 7 2 (by first | decide | omega)).trans kL
        have k6 : ai_hv t104 7 3 = some (gx_w lw) := (e104 7 3 (by first | decide | omega)).trans kW
        show en_ex _ _ _ _ (61, [(5, .inl b2), (4, .inl i), (3, .inl 1000), (0, gx_r 7), (1, .inl 2), (2, .inl e)], [], t104, n, 0) _
        refine ex_go (S := (62, [(5, .inl b2), (4, .inl i), (3, .inl 1000), (0, gx_r 7), (1, .inl 2), (2, .inl e)], [gx_r 7], t104, n, 0)) rfl (fun _ => rfl) rfl ?_
        refine ex_go (S := (63, [(5, .inl b2), (4, .inl i), (3, .inl 1000), (0, gx_r 7), (1, .inl 2), (2, .inl e)], [.inl 2, gx_r 7], t104, n, 0)) rfl (fun _ => rfl) rfl ?_
        refine ex_go (S := (64, [(5, .inl b2), (4, .inl i), (3, .inl 1000), (0, gx_r 7), (1, .inl 2), (2, .inl e)], [.inl 1, .inl 2, gx_r 7], t104, n, 0)) rfl (fun _ => rfl) rfl ?_
        refine ex_go (S := (65, [(5, .inl b2), (4, .inl i), (3, .inl 1000), (0, gx_r 7), (1, .inl 2), (2, .inl e)], [.inl 3, gx_r 7], t104, n, 0)) rfl (fun _ => rfl) rfl ?_
        refine ex_go (S := (66, [(5, .inl b2), (4, .inl i), (3, .inl 1000), (0, gx_r 7), (1, .inl 2), (2, .inl e)], [.inl e, .inl 3, gx_r 7], t104, n, 0)) rfl (fun _ => rfl) rfl ?_
        have hT8 := cT_keep (t' := t104) hT (fun c i h => e104 c i (by first | decide | omega))
        obtain ⟨_, r107, t107, a107, f107, rfl, s107, e107, w107, q107⟩ := h d n _ _ _ s104 hT8 (by first | decide | omega) k5 k6
        have b107 := s107.2.2.2
        obtain ⟨⟨hLa107, hLb107⟩, -⟩ := id hL
        refine gx_callo (a := 7) rfl rfl s104.1 rfl rfl rfl r107 rfl ?_
        have k9 : ai_hv t107 7 2 = some (gx_r LC) := (e107 7 2 (by first | decide | omega)).trans k5
        have k10 : ai_hv t107 7 3 = some (gx_w lw) := (e107 7 3 (by first | decide | omega)).trans k6
        show en_ex _ _ _ _ (69, [(5, .inl b2), (4, .inl i), (3, .inl 1000), (0, gx_r 7), (1, .inl 2), (2, .inl e)], [], t107, n, 0) _
        refine ex_go (S := (70, [(5, .inl b2), (4, .inl i), (3, .inl 1000), (0, gx_r 7), (1, .inl 2), (2, .inl e)], [gx_r 7], t107, n, 0)) rfl (fun _ => rfl) rfl ?_
        refine gxo_get (a := 7) rfl s107.1 rfl rfl k9 rfl ?_
        refine ex_go (S := (75, [(5, .inl b2), (4, .inl i), (3, .inl 1000), (0, gx_r 7), (1, .inl 2), (2, .inl e)], [.inl b2, gx_r LC], t107, n, 0)) rfl (fun _ => rfl) rfl ?_
        obtain ⟨⟨hLa, hLb⟩, ⟨gL111, hgL111, hkL111⟩, hadd111⟩ := id hL
        obtain ⟨t111, r111, g111, e111, z111, kz111, hz111, cz111⟩ := hadd111 (d + l + 4) n b2 t107 s107.1 (by first | decide | omega)
        refine gx_callo (a := LC) rfl rfl s107.1 hgL111 hkL111 rfl r111 rfl ?_
        have k12 : ai_hv t111 7 2 = some (gx_r LC) := (e111 7 2 (by first | decide | omega)).trans k9
        have k13 : ai_hv t111 7 3 = some (gx_w lw) := (e111 7 3 (by first | decide | omega)).trans k10
        have s111 : cS t111 a107 f107 := ⟨g111, (e111 1 8 (by first | decide | omega)).trans s107.2.1, (e111 1 1 (by first | decide | omega)).trans s107.2.2.1, s107.2.2.2⟩
        show en_ex _ _ _ _ (78, [(5, .inl b2), (4, .inl i), (3, .inl 1000), (0, gx_r 7), (1, .inl 2), (2, .inl e)], [], t111, n, 0) _
        refine gx_iinc (i := 4) (k := 1) rfl (fun _ => rfl) (by first | decide | omega) rfl ?_
        show en_ex _ _ _ _ (81, [(4, .inl (i + 1)), (5, .inl b2), (3, .inl 1000), (0, gx_r 7), (1, .inl 2), (2, .inl e)], [], t111, n, 0) _
        refine ex_go (S := (35, [(4, .inl (i + 1)), (5, .inl b2), (3, .inl 1000), (0, gx_r 7), (1, .inl 2), (2, .inl e)], [], t111, n, 0)) rfl (fun _ => rfl) rfl ?_
        have hf0 : f = 0 := q3c
        have w9 : Ev S m N fh 3 e (a + 1, 0) (a107, f107) := Ev_at w107 (by show a104 = a + 1; omega) (by show f104 = 0; omega)
        subst hf0
        have hT14 := cT_keep (t' := t111) hT (fun c i h => (e111 c i (by first | decide | omega)).trans ((e107 c i (by first | decide | omega)).trans (e104 c i (by first | decide | omega))))
        refine ex_imp (fun o9 h9 => ?_) (ih (i + 1) t111 a107 f107 [(5, .inl b2)] (Or.inr ⟨_, rfl⟩) (by first | decide | omega) (by first | decide | omega) s111 (fun c i h => ((e111 c i (by first | decide | omega)).trans ((e107 c i (by first | decide | omega)).trans (e104 c i (by first | decide | omega)))).trans (hG0 c i h)) hT14 (by first | decide | omega) k12 k13)
        obtain ⟨r9, g0, t9, a9, f9, g1, g2, g3, g4, g5, g6, g7, g8⟩ := h9
        refine ⟨r9, g0, t9, a9, f9, g1, g2, g3, Ev_more (by first | decide | omega) (by first | decide | omega) q3d w9 g4, g5, by omega, (fun _ => rfl), fun s9 hs9 hsa hf9 => ?_⟩
        have hf1 := g7 hf9
        obtain ⟨L1, c1, l1, m1⟩ := q107.2.2.2 s9 ((e104 LC 2 (by first | decide | omega)).trans hs9) (by first | decide | omega) (by first | decide | omega)
        have c1 := Ec_at (p' := (a + 1, 0)) c1 (by show a104 = a + 1; omega) (by first | rfl | (show f104 = 0; omega))
        have hz9 : z111 = s9 + L1.length := Sum.inl.inj (Option.some.inj (kz111.symm.trans m1.1))
        have m3 := cz111 (by first | decide | omega)
        rw [hz9] at m3
        obtain ⟨L2, c2, l2, m2⟩ := g8 (s9 + L1.length + 1) m3.1 (by first | decide | omega) hf9
        have m3 := cLs_then m3 (rfl) (fun j => rfl)
        refine ⟨L1 ++ ([sp_oc S m N a] ++ L2), Ec_more (by first | decide | omega) (by first | decide | omega) q3d w9 c1 c2, ?_, ?_⟩
        · rw [List.length_append, List.length_append]
          show L1.length + (1 + L2.length) + a ≤ a9
          omega
        · rw [q3e] at m3
          exact cLs_app (cLs_pre (fun j => e104 (LC + 2) j (by first | decide | omega)) m1) (cLs_app m3 m2)
    · show en_ex _ _ _ _ (35, [(4, .inl i), (5, .inl bx), (3, .inl 1000), (0, gx_r 7), (1, .inl 2), (2, .inl e)], [], t0, n, 0) _
      refine ex_go (S := (37, [(4, .inl i), (5, .inl bx), (3, .inl 1000), (0, gx_r 7), (1, .inl 2), (2, .inl e)], [.inl i], t0, n, 0)) rfl (fun _ => rfl) rfl ?_
      refine ex_go (S := (38, [(4, .inl i), (5, .inl bx), (3, .inl 1000), (0, gx_r 7), (1, .inl 2), (2, .inl e)], [.inl 1000, .inl i], t0, n, 0)) rfl (fun _ => rfl) rfl ?_
      refine gx_2f (c := .ge) rfl (by first | decide | omega) (by first | decide | omega) (show ¬ (1000 ≤ i) from by omega) rfl ?_
      refine ex_go (S := (42, [(4, .inl i), (5, .inl bx), (3, .inl 1000), (0, gx_r 7), (1, .inl 2), (2, .inl e)], [gx_r 7], t0, n, 0)) rfl (fun _ => rfl) rfl ?_
      refine ex_go (S := (43, [(4, .inl i), (5, .inl bx), (3, .inl 1000), (0, gx_r 7), (1, .inl 2), (2, .inl e)], [.inl 2, gx_r 7], t0, n, 0)) rfl (fun _ => rfl) rfl ?_
      obtain ⟨_, r1, b2, rfl, q3⟩ := pc_operatorHere (d + l + 3) n (s0) hT (by first | decide | omega) (l := 2) (by first | decide | omega)
      rcases q3 with ⟨q3a, q3b⟩ | ⟨q3a, q3b, q3c, q3d, q3e⟩
      · subst q3a
        refine gx_callo (a := 7) rfl rfl s0.1 rfl rfl rfl r1 rfl ?_
        show en_ex _ _ _ _ (46, [(4, .inl i), (5, .inl bx), (3, .inl 1000), (0, gx_r 7), (1, .inl 2), (2, .inl e)], [.inl 0], t0, n, 0) _
        refine ex_go (S := (48, [(5, .inl 0), (4, .inl i), (3, .inl 1000), (0, gx_r 7), (1, .inl 2), (2, .inl e)], [], t0, n, 0)) rfl (fun _ => rfl) rfl ?_
        refine ex_go (S := (50, [(5, .inl 0), (4, .inl i), (3, .inl 1000), (0, gx_r 7), (1, .inl 2), (2, .inl e)], [.inl 0], t0, n, 0)) rfl (fun _ => rfl) rfl ?_
        refine ex_go (S := (53, [(5, .inl 0), (4, .inl i), (3, .inl 1000), (0, gx_r 7), (1, .inl 2), (2, .inl e)], [], t0, n, 0)) rfl (fun _ => rfl) rfl ?_
        refine ex_ret (r := (none, t0, n, 0)) rfl (fun _ => rfl) ?_
        exact ⟨_, rfl, t0, a, f, rfl, s0, (fun c i h => hG0 c i h), Ev_exit (by first | decide | omega) q3b, by omega, by omega, fun z => z, fun s9 h9 _ z => ⟨[], Ec_exit (by first | decide | omega) q3b (by first | decide | omega), by show 0 + a ≤ _; omega, cLs_nil h9 (rfl) (fun j => rfl)⟩⟩
      · refine gx_callo (a := 7) rfl rfl s0.1 rfl rfl rfl r1 rfl ?_
        show en_ex _ _ _ _ (46, [(4, .inl i), (5, .inl bx), (3, .inl 1000), (0, gx_r 7), (1, .inl 2), (2, .inl e)], [.inl b2], t0, n, 0) _
        refine ex_go (S := (48, [(5, .inl b2), (4, .inl i), (3, .inl 1000), (0, gx_r 7), (1, .inl 2), (2, .inl e)], [], t0, n, 0)) rfl (fun _ => rfl) rfl ?_
        refine ex_go (S := (50, [(5, .inl b2), (4, .inl i), (3, .inl 1000), (0, gx_r 7), (1, .inl 2), (2, .inl e)], [.inl b2], t0, n, 0)) rfl (fun _ => rfl) rfl ?_
        refine gx_negt (c := .ne) rfl (by first | decide | omega) (by first | decide | omega) rfl rfl ?_
        refine ex_go (S := (55, [(5, .inl b2), (4, .inl i), (3, .inl 1000), (0, gx_r 7), (1, .inl 2), (2, .inl e)], [gx_r 7], t0, n, 0)) rfl (fun _ => rfl) rfl ?_
        refine gxo_ref (a := 7) (c := 1) rfl s0.1 rfl rfl rfl rfl rfl ?_
        have hltq3 := sp_op_lt q3d
        obtain ⟨_, r104, t104, a104, f104, rfl, s104, e104, q104⟩ := pc_goOn (d + l + 4) n (s0) hT (by first | decide | omega) 
        have b104 := s104.2.2.2
        refine gx_callo (a := 1) rfl rfl s0.1 rfl rfl rfl r104 rfl ?_
        have k5 : ai_hv t104 7 2 = some (gx_r LC) := (e104 7 2 (by first | decide | omega)).trans kL
        have k6 : ai_hv t104 7 3 = some (gx_w lw) := (e104 7 3 (by first | decide | omega)).trans kW
        show en_ex _ _ _ _ (61, [(5, .inl b2), (4, .inl i), (3, .inl 1000), (0, gx_r 7), (1, .inl 2), (2, .inl e)], [], t104, n, 0) _
        refine ex_go (S := (62, [(5, .inl b2), (4, .inl i), (3, .inl 1000), (0, gx_r 7), (1, .inl 2), (2, .inl e)], [gx_r 7], t104, n, 0)) rfl (fun _ => rfl) rfl ?_
        refine ex_go (S := (63, [(5, .inl b2), (4, .inl i), (3, .inl 1000), (0, gx_r 7), (1, .inl 2), (2, .inl e)], [.inl 2, gx_r 7], t104, n, 0)) rfl (fun _ => rfl) rfl ?_
        refine ex_go (S := (64, [(5, .inl b2), (4, .inl i), (3, .inl 1000), (0, gx_r 7), (1, .inl 2), (2, .inl e)], [.inl 1, .inl 2, gx_r 7], t104, n, 0)) rfl (fun _ => rfl) rfl ?_
        refine ex_go (S := (65, [(5, .inl b2), (4, .inl i), (3, .inl 1000), (0, gx_r 7), (1, .inl 2), (2, .inl e)], [.inl 3, gx_r 7], t104, n, 0)) rfl (fun _ => rfl) rfl ?_
        refine ex_go (S := (66, [(5, .inl b2), (4, .inl i), (3, .inl 1000), (0, gx_r 7), (1, .inl 2), (2, .inl e)], [.inl e, .inl 3, gx_r 7], t104, n, 0)) rfl (fun _ => rfl) rfl ?_
        have hT8 := cT_keep (t' := t104) hT (fun c i h => e104 c i (by first | decide | omega))
        obtain ⟨_, r107, t107, a107, f107, rfl, s107, e107, w107, q107⟩ := h d n _ _ _ s104 hT8 (by first | decide | omega) k5 k6
        have b107 := s107.2.2.2
        obtain ⟨⟨hLa107, hLb107⟩, -⟩ := id hL
        refine gx_callo (a := 7) rfl rfl s104.1 rfl rfl rfl r107 rfl ?_
        have k9 : ai_hv t107 7 2 = some (gx_r LC) := (e107 7 2 (by first | decide | omega)).trans k5
        have k10 : ai_hv t107 7 3 = some (gx_w lw) := (e107 7 3 (by first | decide | omega)).trans k6
        show en_ex _ _ _ _ (69, [(5, .inl b2), (4, .inl i), (3, .inl 1000), (0, gx_r 7), (1, .inl 2), (2, .inl e)], [], t107, n, 0) _
        refine ex_go (S := (70, [(5, .inl b2), (4, .inl i), (3, .inl 1000), (0, gx_r 7), (1, .inl 2), (2, .inl e)], [gx_r 7], t107, n, 0)) rfl (fun _ => rfl) rfl ?_
        refine gxo_get (a := 7) rfl s107.1 rfl rfl k9 rfl ?_
        refine ex_go (S := (75, [(5, .inl b2), (4, .inl i), (3, .inl 1000), (0, gx_r 7), (1, .inl 2), (2, .inl e)], [.inl b2, gx_r LC], t107, n, 0)) rfl (fun _ => rfl) rfl ?_
        obtain ⟨⟨hLa, hLb⟩, ⟨gL111, hgL111, hkL111⟩, hadd111⟩ := id hL
        obtain ⟨t111, r111, g111, e111, z111, kz111, hz111, cz111⟩ := hadd111 (d + l + 4) n b2 t107 s107.1 (by first | decide | omega)
        refine gx_callo (a := LC) rfl rfl s107.1 hgL111 hkL111 rfl r111 rfl ?_
        have k12 : ai_hv t111 7 2 = some (gx_r LC) := (e111 7 2 (by first | decide | omega)).trans k9
        have k13 : ai_hv t111 7 3 = some (gx_w lw) := (e111 7 3 (by first | decide | omega)).trans k10
        have s111 : cS t111 a107 f107 := ⟨g111, (e111 1 8 (by first | decide | omega)).trans s107.2.1, (e111 1 1 (by first | decide | omega)).trans s107.2.2.1, s107.2.2.2⟩
        show en_ex _ _ _ _ (78, [(5, .inl b2), (4, .inl i), (3, .inl 1000), (0, gx_r 7), (1, .inl 2), (2, .inl e)], [], t111, n, 0) _
        refine gx_iinc (i := 4) (k := 1) rfl (fun _ => rfl) (by first | decide | omega) rfl ?_
        show en_ex _ _ _ _ (81, [(4, .inl (i + 1)), (5, .inl b2), (3, .inl 1000), (0, gx_r 7), (1, .inl 2), (2, .inl e)], [], t111, n, 0) _
        refine ex_go (S := (35, [(4, .inl (i + 1)), (5, .inl b2), (3, .inl 1000), (0, gx_r 7), (1, .inl 2), (2, .inl e)], [], t111, n, 0)) rfl (fun _ => rfl) rfl ?_
        have hf0 : f = 0 := q3c
        have w9 : Ev S m N fh 3 e (a + 1, 0) (a107, f107) := Ev_at w107 (by show a104 = a + 1; omega) (by show f104 = 0; omega)
        subst hf0
        have hT14 := cT_keep (t' := t111) hT (fun c i h => (e111 c i (by first | decide | omega)).trans ((e107 c i (by first | decide | omega)).trans (e104 c i (by first | decide | omega))))
        refine ex_imp (fun o9 h9 => ?_) (ih (i + 1) t111 a107 f107 [(5, .inl b2)] (Or.inr ⟨_, rfl⟩) (by first | decide | omega) (by first | decide | omega) s111 (fun c i h => ((e111 c i (by first | decide | omega)).trans ((e107 c i (by first | decide | omega)).trans (e104 c i (by first | decide | omega)))).trans (hG0 c i h)) hT14 (by first | decide | omega) k12 k13)
        obtain ⟨r9, g0, t9, a9, f9, g1, g2, g3, g4, g5, g6, g7, g8⟩ := h9
        refine ⟨r9, g0, t9, a9, f9, g1, g2, g3, Ev_more (by first | decide | omega) (by first | decide | omega) q3d w9 g4, g5, by omega, (fun _ => rfl), fun s9 hs9 hsa hf9 => ?_⟩
        have hf1 := g7 hf9
        obtain ⟨L1, c1, l1, m1⟩ := q107.2.2.2 s9 ((e104 LC 2 (by first | decide | omega)).trans hs9) (by first | decide | omega) (by first | decide | omega)
        have c1 := Ec_at (p' := (a + 1, 0)) c1 (by show a104 = a + 1; omega) (by first | rfl | (show f104 = 0; omega))
        have hz9 : z111 = s9 + L1.length := Sum.inl.inj (Option.some.inj (kz111.symm.trans m1.1))
        have m3 := cz111 (by first | decide | omega)
        rw [hz9] at m3
        obtain ⟨L2, c2, l2, m2⟩ := g8 (s9 + L1.length + 1) m3.1 (by first | decide | omega) hf9
        have m3 := cLs_then m3 (rfl) (fun j => rfl)
        refine ⟨L1 ++ ([sp_oc S m N a] ++ L2), Ec_more (by first | decide | omega) (by first | decide | omega) q3d w9 c1 c2, ?_, ?_⟩
        · rw [List.length_append, List.length_append]
          show L1.length + (1 + L2.length) + a ≤ a9
          omega
        · rw [q3e] at m3
          exact cLs_app (cLs_pre (fun j => e104 (LC + 2) j (by first | decide | omega)) m1) (cLs_app m3 m2)
theorem pc_level2 {l e : Nat} (hL : cLaw LC) (h : ∀ d, cRL S m N fh lw LC (d + l + 5) 3 e) (d : Nat) : cRL S m N fh lw LC (d + l + 6) 2 e := by
  intro n t0 a f s0 hT ha kL kW
  have b0 := s0.2.2.2
  have hN := hT.2.2.2.2.2.2.1
  refine en_u_ex (d := d + l + 5) rfl ?_
  show en_ex _ _ _ _ (0, [(0, gx_r 7), (1, .inl 2), (2, .inl e)], [], t0, n, 0) _
  refine ex_go (S := (1, [(0, gx_r 7), (1, .inl 2), (2, .inl e)], [.inl 2], t0, n, 0)) rfl (fun _ => rfl) rfl ?_
  refine ex_go (S := (2, [(0, gx_r 7), (1, .inl 2), (2, .inl e)], [.inl 4, .inl 2], t0, n, 0)) rfl (fun _ => rfl) rfl ?_
  refine ex_go (S := (11, [(0, gx_r 7), (1, .inl 2), (2, .inl e)], [], t0, n, 0)) rfl (fun _ => rfl) rfl ?_
  refine ex_go (S := (12, [(0, gx_r 7), (1, .inl 2), (2, .inl e)], [gx_r 7], t0, n, 0)) rfl (fun _ => rfl) rfl ?_
  refine ex_go (S := (13, [(0, gx_r 7), (1, .inl 2), (2, .inl e)], [.inl 2, gx_r 7], t0, n, 0)) rfl (fun _ => rfl) rfl ?_
  refine ex_go (S := (14, [(0, gx_r 7), (1, .inl 2), (2, .inl e)], [.inl 1, .inl 2, gx_r 7], t0, n, 0)) rfl (fun _ => rfl) rfl ?_
  refine ex_go (S := (15, [(0, gx_r 7), (1, .inl 2), (2, .inl e)], [.inl 3, gx_r 7], t0, n, 0)) rfl (fun _ => rfl) rfl ?_
  refine ex_go (S := (16, [(0, gx_r 7), (1, .inl 2), (2, .inl e)], [.inl e, .inl 3, gx_r 7], t0, n, 0)) rfl (fun _ => rfl) rfl ?_
  obtain ⟨_, r101, t101, a101, f101, rfl, s101, e101, w101, q101⟩ := h d n _ _ _ s0 hT (by first | decide | omega) kL kW
  have b101 := s101.2.2.2
  obtain ⟨⟨hLa101, hLb101⟩, -⟩ := id hL
  refine gx_callo (a := 7) rfl rfl s0.1 rfl rfl rfl r101 rfl ?_
  have k2 : ai_hv t101 7 2 = some (gx_r LC) := (e101 7 2 (by first | decide | omega)).trans kL
  have k3 : ai_hv t101 7 3 = some (gx_w lw) := (e101 7 3 (by first | decide | omega)).trans kW
  show en_ex _ _ _ _ (19, [(0, gx_r 7), (1, .inl 2), (2, .inl e)], [], t101, n, 0) _
  refine ex_go (S := (20, [(0, gx_r 7), (1, .inl 2), (2, .inl e)], [.inl 2], t101, n, 0)) rfl (fun _ => rfl) rfl ?_
  refine ex_go (S := (21, [(0, gx_r 7), (1, .inl 2), (2, .inl e)], [.inl 1, .inl 2], t101, n, 0)) rfl (fun _ => rfl) rfl ?_
  refine ex_go (S := (28, [(0, gx_r 7), (1, .inl 2), (2, .inl e)], [], t101, n, 0)) rfl (fun _ => rfl) rfl ?_
  refine ex_go (S := (31, [(0, gx_r 7), (1, .inl 2), (2, .inl e)], [.inl 1000], t101, n, 0)) rfl (fun _ => rfl) rfl ?_
  refine ex_go (S := (32, [(3, .inl 1000), (0, gx_r 7), (1, .inl 2), (2, .inl e)], [], t101, n, 0)) rfl (fun _ => rfl) rfl ?_
  refine ex_go (S := (33, [(3, .inl 1000), (0, gx_r 7), (1, .inl 2), (2, .inl e)], [.inl 0], t101, n, 0)) rfl (fun _ => rfl) rfl ?_
  refine ex_go (S := (35, [(4, .inl 0), (3, .inl 1000), (0, gx_r 7), (1, .inl 2), (2, .inl e)], [], t101, n, 0)) rfl (fun _ => rfl) rfl ?_
  have hT4 := cT_keep (t' := t101) hT (fun c i h => e101 c i (by first | decide | omega))
  refine ex_imp (fun o9 h9 => ?_) (pc_level2_l hL h d n (tb := t0) 1000 0 t101 a101 f101 [] (Or.inl rfl) (by first | decide | omega) (by first | decide | omega) s101 (fun c i h => e101 c i (by first | decide | omega)) hT4 (by first | decide | omega) k2 k3)
  obtain ⟨r9, g0, t9, a9, f9, g1, g2, g3, g4, g5, g6, g7, g8⟩ := h9
  refine ⟨r9, g0, t9, a9, f9, g1, g2, g3, Ev_seq (by first | decide | omega) w101 g4, g5, by omega, (fun z => by have := g7 z; omega), fun s9 hs9 hsa hf9 => ?_⟩
  have hf1 := g7 hf9
  obtain ⟨L1, c1, l1, m1⟩ := q101.2.2.2 s9 hs9 hsa hf1
  obtain ⟨L2, c2, l2, m2⟩ := g8 (s9 + L1.length) m1.1 (by first | decide | omega) hf9
  exact ⟨L1 ++ L2, Ec_seq (by first | decide | omega) (by first | decide | omega) w101 c1 c2, by rw [List.length_append]; omega, cLs_app m1 m2⟩
theorem pc_level1 {l e : Nat} (hL : cLaw LC) (h : ∀ d, cRL S m N fh lw LC (d + l + 6) 2 e) (d : Nat) : cRL S m N fh lw LC (d + l + 7) 1 e := by
  intro n t0 a f s0 hT ha kL kW
  have b0 := s0.2.2.2
  have hN := hT.2.2.2.2.2.2.1
  refine en_u_ex (d := d + l + 6) rfl ?_
  show en_ex _ _ _ _ (0, [(0, gx_r 7), (1, .inl 1), (2, .inl e)], [], t0, n, 0) _
  refine ex_go (S := (1, [(0, gx_r 7), (1, .inl 1), (2, .inl e)], [.inl 1], t0, n, 0)) rfl (fun _ => rfl) rfl ?_
  refine ex_go (S := (2, [(0, gx_r 7), (1, .inl 1), (2, .inl e)], [.inl 4, .inl 1], t0, n, 0)) rfl (fun _ => rfl) rfl ?_
  refine ex_go (S := (11, [(0, gx_r 7), (1, .inl 1), (2, .inl e)], [], t0, n, 0)) rfl (fun _ => rfl) rfl ?_
  refine ex_go (S := (12, [(0, gx_r 7), (1, .inl 1), (2, .inl e)], [gx_r 7], t0, n, 0)) rfl (fun _ => rfl) rfl ?_
  refine ex_go (S := (13, [(0, gx_r 7), (1, .inl 1), (2, .inl e)], [.inl 1, gx_r 7], t0, n, 0)) rfl (fun _ => rfl) rfl ?_
  refine ex_go (S := (14, [(0, gx_r 7), (1, .inl 1), (2, .inl e)], [.inl 1, .inl 1, gx_r 7], t0, n, 0)) rfl (fun _ => rfl) rfl ?_
  refine ex_go (S := (15, [(0, gx_r 7), (1, .inl 1), (2, .inl e)], [.inl 2, gx_r 7], t0, n, 0)) rfl (fun _ => rfl) rfl ?_
  refine ex_go (S := (16, [(0, gx_r 7), (1, .inl 1), (2, .inl e)], [.inl e, .inl 2, gx_r 7], t0, n, 0)) rfl (fun _ => rfl) rfl ?_
  obtain ⟨_, r101, t101, a101, f101, rfl, s101, e101, w101, q101⟩ := h d n _ _ _ s0 hT (by first | decide | omega) kL kW
  have b101 := s101.2.2.2
  obtain ⟨⟨hLa101, hLb101⟩, -⟩ := id hL
  refine gx_callo (a := 7) rfl rfl s0.1 rfl rfl rfl r101 rfl ?_
  have k2 : ai_hv t101 7 2 = some (gx_r LC) := (e101 7 2 (by first | decide | omega)).trans kL
  have k3 : ai_hv t101 7 3 = some (gx_w lw) := (e101 7 3 (by first | decide | omega)).trans kW
  show en_ex _ _ _ _ (19, [(0, gx_r 7), (1, .inl 1), (2, .inl e)], [], t101, n, 0) _
  refine ex_go (S := (20, [(0, gx_r 7), (1, .inl 1), (2, .inl e)], [.inl 1], t101, n, 0)) rfl (fun _ => rfl) rfl ?_
  refine ex_go (S := (21, [(0, gx_r 7), (1, .inl 1), (2, .inl e)], [.inl 1, .inl 1], t101, n, 0)) rfl (fun _ => rfl) rfl ?_
  refine ex_go (S := (24, [(0, gx_r 7), (1, .inl 1), (2, .inl e)], [], t101, n, 0)) rfl (fun _ => rfl) rfl ?_
  refine ex_go (S := (25, [(0, gx_r 7), (1, .inl 1), (2, .inl e)], [.inl 1], t101, n, 0)) rfl (fun _ => rfl) rfl ?_
  refine ex_go (S := (31, [(0, gx_r 7), (1, .inl 1), (2, .inl e)], [.inl 1], t101, n, 0)) rfl (fun _ => rfl) rfl ?_
  refine ex_go (S := (32, [(3, .inl 1), (0, gx_r 7), (1, .inl 1), (2, .inl e)], [], t101, n, 0)) rfl (fun _ => rfl) rfl ?_
  refine ex_go (S := (33, [(3, .inl 1), (0, gx_r 7), (1, .inl 1), (2, .inl e)], [.inl 0], t101, n, 0)) rfl (fun _ => rfl) rfl ?_
  refine ex_go (S := (35, [(4, .inl 0), (3, .inl 1), (0, gx_r 7), (1, .inl 1), (2, .inl e)], [], t101, n, 0)) rfl (fun _ => rfl) rfl ?_
  refine ex_go (S := (37, [(4, .inl 0), (3, .inl 1), (0, gx_r 7), (1, .inl 1), (2, .inl e)], [.inl 0], t101, n, 0)) rfl (fun _ => rfl) rfl ?_
  refine ex_go (S := (38, [(4, .inl 0), (3, .inl 1), (0, gx_r 7), (1, .inl 1), (2, .inl e)], [.inl 1, .inl 0], t101, n, 0)) rfl (fun _ => rfl) rfl ?_
  refine ex_go (S := (41, [(4, .inl 0), (3, .inl 1), (0, gx_r 7), (1, .inl 1), (2, .inl e)], [], t101, n, 0)) rfl (fun _ => rfl) rfl ?_
  refine ex_go (S := (42, [(4, .inl 0), (3, .inl 1), (0, gx_r 7), (1, .inl 1), (2, .inl e)], [gx_r 7], t101, n, 0)) rfl (fun _ => rfl) rfl ?_
  refine ex_go (S := (43, [(4, .inl 0), (3, .inl 1), (0, gx_r 7), (1, .inl 1), (2, .inl e)], [.inl 1, gx_r 7], t101, n, 0)) rfl (fun _ => rfl) rfl ?_
  have hT7 := cT_keep (t' := t101) hT (fun c i h => e101 c i (by first | decide | omega))
  obtain ⟨_, r4, b5, rfl, q6⟩ := pc_operatorHere (d + l + 4) n (s101) hT7 (by first | decide | omega) (l := 1) (by first | decide | omega)
  rcases q6 with ⟨q6a, q6b⟩ | ⟨q6a, q6b, q6c, q6d, q6e⟩
  · subst q6a
    refine gx_callo (a := 7) rfl rfl s101.1 rfl rfl rfl r4 rfl ?_
    show en_ex _ _ _ _ (46, [(4, .inl 0), (3, .inl 1), (0, gx_r 7), (1, .inl 1), (2, .inl e)], [.inl 0], t101, n, 0) _
    refine ex_go (S := (48, [(5, .inl 0), (4, .inl 0), (3, .inl 1), (0, gx_r 7), (1, .inl 1), (2, .inl e)], [], t101, n, 0)) rfl (fun _ => rfl) rfl ?_
    refine ex_go (S := (50, [(5, .inl 0), (4, .inl 0), (3, .inl 1), (0, gx_r 7), (1, .inl 1), (2, .inl e)], [.inl 0], t101, n, 0)) rfl (fun _ => rfl) rfl ?_
    refine ex_go (S := (53, [(5, .inl 0), (4, .inl 0), (3, .inl 1), (0, gx_r 7), (1, .inl 1), (2, .inl e)], [], t101, n, 0)) rfl (fun _ => rfl) rfl ?_
    refine ex_ret (r := (none, t101, n, 0)) rfl (fun _ => rfl) ?_
    refine ⟨_, rfl, t101, a101, f101, rfl, s101, (fun c i h => e101 c i (by first | decide | omega)), Ev_seq (by first | decide | omega) w101 (Ev_exit (by first | decide | omega) q6b), by omega, by omega, by omega, fun s9 hs9 hsa hf9 => ?_⟩
    obtain ⟨L1, c1, l1, m1⟩ := q101.2.2.2 s9 hs9 hsa (by first | decide | omega)
    exact ⟨L1 ++ [], Ec_seq (by first | decide | omega) (by first | decide | omega) w101 c1 (Ec_exit (by first | decide | omega) q6b (by first | decide | omega)), by rw [List.append_nil]; omega, by rw [List.append_nil]; exact m1⟩
  · refine gx_callo (a := 7) rfl rfl s101.1 rfl rfl rfl r4 rfl ?_
    show en_ex _ _ _ _ (46, [(4, .inl 0), (3, .inl 1), (0, gx_r 7), (1, .inl 1), (2, .inl e)], [.inl b5], t101, n, 0) _
    refine ex_go (S := (48, [(5, .inl b5), (4, .inl 0), (3, .inl 1), (0, gx_r 7), (1, .inl 1), (2, .inl e)], [], t101, n, 0)) rfl (fun _ => rfl) rfl ?_
    refine ex_go (S := (50, [(5, .inl b5), (4, .inl 0), (3, .inl 1), (0, gx_r 7), (1, .inl 1), (2, .inl e)], [.inl b5], t101, n, 0)) rfl (fun _ => rfl) rfl ?_
    refine gx_negt (c := .ne) rfl (by first | decide | omega) (by first | decide | omega) rfl rfl ?_
    refine ex_go (S := (55, [(5, .inl b5), (4, .inl 0), (3, .inl 1), (0, gx_r 7), (1, .inl 1), (2, .inl e)], [gx_r 7], t101, n, 0)) rfl (fun _ => rfl) rfl ?_
    refine gxo_ref (a := 7) (c := 1) rfl s101.1 rfl rfl rfl rfl rfl ?_
    have hltq6 := sp_op_lt q6d
    obtain ⟨_, r108, t108, a108, f108, rfl, s108, e108, q108⟩ := pc_goOn (d + l + 5) n (s101) hT7 (by first | decide | omega) 
    have b108 := s108.2.2.2
    refine gx_callo (a := 1) rfl rfl s101.1 rfl rfl rfl r108 rfl ?_
    have k9 : ai_hv t108 7 2 = some (gx_r LC) := (e108 7 2 (by first | decide | omega)).trans k2
    have k10 : ai_hv t108 7 3 = some (gx_w lw) := (e108 7 3 (by first | decide | omega)).trans k3
    show en_ex _ _ _ _ (61, [(5, .inl b5), (4, .inl 0), (3, .inl 1), (0, gx_r 7), (1, .inl 1), (2, .inl e)], [], t108, n, 0) _
    refine ex_go (S := (62, [(5, .inl b5), (4, .inl 0), (3, .inl 1), (0, gx_r 7), (1, .inl 1), (2, .inl e)], [gx_r 7], t108, n, 0)) rfl (fun _ => rfl) rfl ?_
    refine ex_go (S := (63, [(5, .inl b5), (4, .inl 0), (3, .inl 1), (0, gx_r 7), (1, .inl 1), (2, .inl e)], [.inl 1, gx_r 7], t108, n, 0)) rfl (fun _ => rfl) rfl ?_
    refine ex_go (S := (64, [(5, .inl b5), (4, .inl 0), (3, .inl 1), (0, gx_r 7), (1, .inl 1), (2, .inl e)], [.inl 1, .inl 1, gx_r 7], t108, n, 0)) rfl (fun _ => rfl) rfl ?_
    refine ex_go (S := (65, [(5, .inl b5), (4, .inl 0), (3, .inl 1), (0, gx_r 7), (1, .inl 1), (2, .inl e)], [.inl 2, gx_r 7], t108, n, 0)) rfl (fun _ => rfl) rfl ?_
    refine ex_go (S := (66, [(5, .inl b5), (4, .inl 0), (3, .inl 1), (0, gx_r 7), (1, .inl 1), (2, .inl e)], [.inl e, .inl 2, gx_r 7], t108, n, 0)) rfl (fun _ => rfl) rfl ?_
    have hT12 := cT_keep (t' := t108) hT (fun c i h => (e108 c i (by first | decide | omega)).trans (e101 c i (by first | decide | omega)))
    obtain ⟨_, r111, t111, a111, f111, rfl, s111, e111, w111, q111⟩ := h d n _ _ _ s108 hT12 (by first | decide | omega) k9 k10
    have b111 := s111.2.2.2
    obtain ⟨⟨hLa111, hLb111⟩, -⟩ := id hL
    refine gx_callo (a := 7) rfl rfl s108.1 rfl rfl rfl r111 rfl ?_
    have k13 : ai_hv t111 7 2 = some (gx_r LC) := (e111 7 2 (by first | decide | omega)).trans k9
    have k14 : ai_hv t111 7 3 = some (gx_w lw) := (e111 7 3 (by first | decide | omega)).trans k10
    show en_ex _ _ _ _ (69, [(5, .inl b5), (4, .inl 0), (3, .inl 1), (0, gx_r 7), (1, .inl 1), (2, .inl e)], [], t111, n, 0) _
    refine ex_go (S := (70, [(5, .inl b5), (4, .inl 0), (3, .inl 1), (0, gx_r 7), (1, .inl 1), (2, .inl e)], [gx_r 7], t111, n, 0)) rfl (fun _ => rfl) rfl ?_
    refine gxo_get (a := 7) rfl s111.1 rfl rfl k13 rfl ?_
    refine ex_go (S := (75, [(5, .inl b5), (4, .inl 0), (3, .inl 1), (0, gx_r 7), (1, .inl 1), (2, .inl e)], [.inl b5, gx_r LC], t111, n, 0)) rfl (fun _ => rfl) rfl ?_
    obtain ⟨⟨hLa, hLb⟩, ⟨gL115, hgL115, hkL115⟩, hadd115⟩ := id hL
    obtain ⟨t115, r115, g115, e115, z115, kz115, hz115, cz115⟩ := hadd115 (d + l + 5) n b5 t111 s111.1 (by first | decide | omega)
    refine gx_callo (a := LC) rfl rfl s111.1 hgL115 hkL115 rfl r115 rfl ?_
    have k16 : ai_hv t115 7 2 = some (gx_r LC) := (e115 7 2 (by first | decide | omega)).trans k13
    have k17 : ai_hv t115 7 3 = some (gx_w lw) := (e115 7 3 (by first | decide | omega)).trans k14
    have s115 : cS t115 a111 f111 := ⟨g115, (e115 1 8 (by first | decide | omega)).trans s111.2.1, (e115 1 1 (by first | decide | omega)).trans s111.2.2.1, s111.2.2.2⟩
    show en_ex _ _ _ _ (78, [(5, .inl b5), (4, .inl 0), (3, .inl 1), (0, gx_r 7), (1, .inl 1), (2, .inl e)], [], t115, n, 0) _
    refine ex_go (S := (81, [(4, .inl 1), (5, .inl b5), (3, .inl 1), (0, gx_r 7), (1, .inl 1), (2, .inl e)], [], t115, n, 0)) rfl (fun _ => rfl) rfl ?_
    refine ex_go (S := (35, [(4, .inl 1), (5, .inl b5), (3, .inl 1), (0, gx_r 7), (1, .inl 1), (2, .inl e)], [], t115, n, 0)) rfl (fun _ => rfl) rfl ?_
    refine ex_go (S := (37, [(4, .inl 1), (5, .inl b5), (3, .inl 1), (0, gx_r 7), (1, .inl 1), (2, .inl e)], [.inl 1], t115, n, 0)) rfl (fun _ => rfl) rfl ?_
    refine ex_go (S := (38, [(4, .inl 1), (5, .inl b5), (3, .inl 1), (0, gx_r 7), (1, .inl 1), (2, .inl e)], [.inl 1, .inl 1], t115, n, 0)) rfl (fun _ => rfl) rfl ?_
    refine ex_go (S := (84, [(4, .inl 1), (5, .inl b5), (3, .inl 1), (0, gx_r 7), (1, .inl 1), (2, .inl e)], [], t115, n, 0)) rfl (fun _ => rfl) rfl ?_
    refine ex_ret (r := (none, t115, n, 0)) rfl (fun _ => rfl) ?_
    have w9 : Ev S m N fh 2 e (a101 + 1, 0) (a111, f111) := Ev_at w111 (by show a108 = a101 + 1; omega) (by show f108 = 0; omega)
    refine ⟨_, rfl, t115, a111, f111, rfl, s115, (fun c i h => (e115 c i (by first | decide | omega)).trans ((e111 c i (by first | decide | omega)).trans ((e108 c i (by first | decide | omega)).trans (e101 c i (by first | decide | omega))))), Ev_seq (by first | decide | omega) w101 (Ev_at (Ev_once q6d w9) rfl (by show 0 = f101; omega)), by omega, by omega, by omega, fun s9 hs9 hsa hf9 => ?_⟩
    obtain ⟨L1, c1, l1, m1⟩ := q101.2.2.2 s9 hs9 hsa (by first | decide | omega)
    obtain ⟨L2, c2, l2, m2⟩ := q111.2.2.2 (s9 + L1.length) ((e108 LC 2 (by first | decide | omega)).trans m1.1) (by first | decide | omega) (by first | decide | omega)
    have c2 := Ec_at (p' := (a101 + 1, 0)) c2 (by show a108 = a101 + 1; omega) (by first | rfl | (show f108 = 0; omega))
    have hz9 : z115 = s9 + L1.length + L2.length := Sum.inl.inj (Option.some.inj (kz115.symm.trans m2.1))
    have m3 := cz115 (by first | decide | omega)
    rw [hz9, q6e] at m3
    refine ⟨L1 ++ (L2 ++ [sp_oc S m N a101]), Ec_seq (by first | decide | omega) (by first | decide | omega) w101 c1 (Ec_at (Ec_once q6d c2) rfl (by show 0 = f101; omega)), ?_, ?_⟩
    · rw [List.length_append, List.length_append]
      show L1.length + (L2.length + 1) + a ≤ a111
      omega
    · exact cLs_app m1 (cLs_app (cLs_pre (fun j => e108 (LC + 2) j (by first | decide | omega)) m2) m3)
theorem pc_level0_l {l e : Nat} (hL : cLaw LC) (h : ∀ d, cRL S m N fh lw LC (d + l + 7) 1 e) (d n : Nat) {tb : en_H} : ∀ j i t0 a f lx, (lx = [] ∨ ∃ b, lx = [(5, .inl b)]) → i + j = 1000 → i ≤ a → cS t0 a f → cG LC tb t0 → cT t0 S m N → a ≤ N → ai_hv t0 7 2 = some (gx_r LC) → ai_hv t0 7 3 = some (gx_w lw) → en_ex none (en_u (d + l + 7)) (en_code 270) (fun _ => false) (35, (4, .inl i) :: (lx ++ [(3, .inl 1000), (0, gx_r 7), (1, .inl 0), (2, .inl e)]), [], t0, n, 0) (fun o => ∃ r, o = .inl r ∧ ∃ t' a' f', r = (none, t', n, 0) ∧ cS t' a' f' ∧ cG LC tb t' ∧ Ev S m N fh 5 e (a, f) (a', f') ∧ a' ≤ N ∧ a ≤ a' ∧ (f' = 0 → f = 0) ∧ cE S m N fh LC 5 e t0 a f t' a' f') := by
  intro j
  induction j with
  | zero =>
    intro i t0 a f lx hlx hi hia s0 hG0 hT ha kL kW
    have b0 := s0.2.2.2
    have hN := hT.2.2.2.2.2.2.1
    rcases hlx with rfl | ⟨bx, rfl⟩
    · show en_ex _ _ _ _ (35, [(4, .inl i), (3, .inl 1000), (0, gx_r 7), (1, .inl 0), (2, .inl e)], [], t0, n, 0) _
      refine ex_go (S := (37, [(4, .inl i), (3, .inl 1000), (0, gx_r 7), (1, .inl 0), (2, .inl e)], [.inl i], t0, n, 0)) rfl (fun _ => rfl) rfl ?_
      refine ex_go (S := (38, [(4, .inl i), (3, .inl 1000), (0, gx_r 7), (1, .inl 0), (2, .inl e)], [.inl 1000, .inl i], t0, n, 0)) rfl (fun _ => rfl) rfl ?_
      refine gx_2t (c := .ge) rfl (by first | decide | omega) (by first | decide | omega) (show 1000 ≤ i from by omega) rfl ?_
      refine ex_ret (r := (none, t0, n, 0)) rfl (fun _ => rfl) ?_
      exact ⟨_, rfl, t0, a, f, rfl, s0, (fun c i h => hG0 c i h), Ev_exit (by first | decide | omega) (fun _ z => by have hz := sp_op_lt z; omega), by omega, by omega, fun z => z, fun s9 h9 _ z => ⟨[], Ec_exit (by first | decide | omega) (fun _ z => by have hz := sp_op_lt z; omega) (by first | decide | omega), by show 0 + a ≤ _; omega, cLs_nil h9 (rfl) (fun j => rfl)⟩⟩
    · show en_ex _ _ _ _ (35, [(4, .inl i), (5, .inl bx), (3, .inl 1000), (0, gx_r 7), (1, .inl 0), (2, .inl e)], [], t0, n, 0) _
      refine ex_go (S := (37, [(4, .inl i), (5, .inl bx), (3, .inl 1000), (0, gx_r 7), (1, .inl 0), (2, .inl e)], [.inl i], t0, n, 0)) rfl (fun _ => rfl) rfl ?_
      refine ex_go (S := (38, [(4, .inl i), (5, .inl bx), (3, .inl 1000), (0, gx_r 7), (1, .inl 0), (2, .inl e)], [.inl 1000, .inl i], t0, n, 0)) rfl (fun _ => rfl) rfl ?_
      refine gx_2t (c := .ge) rfl (by first | decide | omega) (by first | decide | omega) (show 1000 ≤ i from by omega) rfl ?_
      refine ex_ret (r := (none, t0, n, 0)) rfl (fun _ => rfl) ?_
      exact ⟨_, rfl, t0, a, f, rfl, s0, (fun c i h => hG0 c i h), Ev_exit (by first | decide | omega) (fun _ z => by have hz := sp_op_lt z; omega), by omega, by omega, fun z => z, fun s9 h9 _ z => ⟨[], Ec_exit (by first | decide | omega) (fun _ z => by have hz := sp_op_lt z; omega) (by first | decide | omega), by show 0 + a ≤ _; omega, cLs_nil h9 (rfl) (fun j => rfl)⟩⟩
  | succ j ih =>
    intro i t0 a f lx hlx hi hia s0 hG0 hT ha kL kW
    have b0 := s0.2.2.2
    have hN := hT.2.2.2.2.2.2.1
    rcases hlx with rfl | ⟨bx, rfl⟩
    · show en_ex _ _ _ _ (35, [(4, .inl i), (3, .inl 1000), (0, gx_r 7), (1, .inl 0), (2, .inl e)], [], t0, n, 0) _
      refine ex_go (S := (37, [(4, .inl i), (3, .inl 1000), (0, gx_r 7), (1, .inl 0), (2, .inl e)], [.inl i], t0, n, 0)) rfl (fun _ => rfl) rfl ?_
      refine ex_go (S := (38, [(4, .inl i), (3, .inl 1000), (0, gx_r 7), (1, .inl 0), (2, .inl e)], [.inl 1000, .inl i], t0, n, 0)) rfl (fun _ => rfl) rfl ?_
      refine gx_2f (c := .ge) rfl (by first | decide | omega) (by first | decide | omega) (show ¬ (1000 ≤ i) from by omega) rfl ?_
      refine ex_go (S := (42, [(4, .inl i), (3, .inl 1000), (0, gx_r 7), (1, .inl 0), (2, .inl e)], [gx_r 7], t0, n, 0)) rfl (fun _ => rfl) rfl ?_
      refine ex_go (S := (43, [(4, .inl i), (3, .inl 1000), (0, gx_r 7), (1, .inl 0), (2, .inl e)], [.inl 0, gx_r 7], t0, n, 0)) rfl (fun _ => rfl) rfl ?_
      obtain ⟨_, r1, b2, rfl, q3⟩ := pc_operatorHere (d + l + 5) n (s0) hT (by first | decide | omega) (l := 0) (by first | decide | omega)
      rcases q3 with ⟨q3a, q3b⟩ | ⟨q3a, q3b, q3c, q3d, q3e⟩
      · subst q3a
        refine gx_callo (a := 7) rfl rfl s0.1 rfl rfl rfl r1 rfl ?_
        show en_ex _ _ _ _ (46, [(4, .inl i), (3, .inl 1000), (0, gx_r 7), (1, .inl 0), (2, .inl e)], [.inl 0], t0, n, 0) _
        refine ex_go (S := (48, [(5, .inl 0), (4, .inl i), (3, .inl 1000), (0, gx_r 7), (1, .inl 0), (2, .inl e)], [], t0, n, 0)) rfl (fun _ => rfl) rfl ?_
        refine ex_go (S := (50, [(5, .inl 0), (4, .inl i), (3, .inl 1000), (0, gx_r 7), (1, .inl 0), (2, .inl e)], [.inl 0], t0, n, 0)) rfl (fun _ => rfl) rfl ?_
        refine ex_go (S := (53, [(5, .inl 0), (4, .inl i), (3, .inl 1000), (0, gx_r 7), (1, .inl 0), (2, .inl e)], [], t0, n, 0)) rfl (fun _ => rfl) rfl ?_
        refine ex_ret (r := (none, t0, n, 0)) rfl (fun _ => rfl) ?_
        exact ⟨_, rfl, t0, a, f, rfl, s0, (fun c i h => hG0 c i h), Ev_exit (by first | decide | omega) q3b, by omega, by omega, fun z => z, fun s9 h9 _ z => ⟨[], Ec_exit (by first | decide | omega) q3b (by first | decide | omega), by show 0 + a ≤ _; omega, cLs_nil h9 (rfl) (fun j => rfl)⟩⟩
      · refine gx_callo (a := 7) rfl rfl s0.1 rfl rfl rfl r1 rfl ?_
        show en_ex _ _ _ _ (46, [(4, .inl i), (3, .inl 1000), (0, gx_r 7), (1, .inl 0), (2, .inl e)], [.inl b2], t0, n, 0) _
        refine ex_go (S := (48, [(5, .inl b2), (4, .inl i), (3, .inl 1000), (0, gx_r 7), (1, .inl 0), (2, .inl e)], [], t0, n, 0)) rfl (fun _ => rfl) rfl ?_
        refine ex_go (S := (50, [(5, .inl b2), (4, .inl i), (3, .inl 1000), (0, gx_r 7), (1, .inl 0), (2, .inl e)], [.inl b2], t0, n, 0)) rfl (fun _ => rfl) rfl ?_
        refine gx_negt (c := .ne) rfl (by first | decide | omega) (by first | decide | omega) rfl rfl ?_
        refine ex_go (S := (55, [(5, .inl b2), (4, .inl i), (3, .inl 1000), (0, gx_r 7), (1, .inl 0), (2, .inl e)], [gx_r 7], t0, n, 0)) rfl (fun _ => rfl) rfl ?_
        refine gxo_ref (a := 7) (c := 1) rfl s0.1 rfl rfl rfl rfl rfl ?_
        have hltq3 := sp_op_lt q3d
        obtain ⟨_, r104, t104, a104, f104, rfl, s104, e104, q104⟩ := pc_goOn (d + l + 6) n (s0) hT (by first | decide | omega) 
        have b104 := s104.2.2.2
        refine gx_callo (a := 1) rfl rfl s0.1 rfl rfl rfl r104 rfl ?_
        have k5 : ai_hv t104 7 2 = some (gx_r LC) := (e104 7 2 (by first | decide | omega)).trans kL
        have k6 : ai_hv t104 7 3 = some (gx_w lw) := (e104 7 3 (by first | decide | omega)).trans kW
        show en_ex _ _ _ _ (61, [(5, .inl b2), (4, .inl i), (3, .inl 1000), (0, gx_r 7), (1, .inl 0), (2, .inl e)], [], t104, n, 0) _
        refine ex_go (S := (62, [(5, .inl b2), (4, .inl i), (3, .inl 1000), (0, gx_r 7), (1, .inl 0), (2, .inl e)], [gx_r 7], t104, n, 0)) rfl (fun _ => rfl) rfl ?_
        refine ex_go (S := (63, [(5, .inl b2), (4, .inl i), (3, .inl 1000), (0, gx_r 7), (1, .inl 0), (2, .inl e)], [.inl 0, gx_r 7], t104, n, 0)) rfl (fun _ => rfl) rfl ?_
        refine ex_go (S := (64, [(5, .inl b2), (4, .inl i), (3, .inl 1000), (0, gx_r 7), (1, .inl 0), (2, .inl e)], [.inl 1, .inl 0, gx_r 7], t104, n, 0)) rfl (fun _ => rfl) rfl ?_
        refine ex_go (S := (65, [(5, .inl b2), (4, .inl i), (3, .inl 1000), (0, gx_r 7), (1, .inl 0), (2, .inl e)], [.inl 1, gx_r 7], t104, n, 0)) rfl (fun _ => rfl) rfl ?_
        refine ex_go (S := (66, [(5, .inl b2), (4, .inl i), (3, .inl 1000), (0, gx_r 7), (1, .inl 0), (2, .inl e)], [.inl e, .inl 1, gx_r 7], t104, n, 0)) rfl (fun _ => rfl) rfl ?_
        have hT8 := cT_keep (t' := t104) hT (fun c i h => e104 c i (by first | decide | omega))
        obtain ⟨_, r107, t107, a107, f107, rfl, s107, e107, w107, q107⟩ := h d n _ _ _ s104 hT8 (by first | decide | omega) k5 k6
        have b107 := s107.2.2.2
        obtain ⟨⟨hLa107, hLb107⟩, -⟩ := id hL
        refine gx_callo (a := 7) rfl rfl s104.1 rfl rfl rfl r107 rfl ?_
        have k9 : ai_hv t107 7 2 = some (gx_r LC) := (e107 7 2 (by first | decide | omega)).trans k5
        have k10 : ai_hv t107 7 3 = some (gx_w lw) := (e107 7 3 (by first | decide | omega)).trans k6
        show en_ex _ _ _ _ (69, [(5, .inl b2), (4, .inl i), (3, .inl 1000), (0, gx_r 7), (1, .inl 0), (2, .inl e)], [], t107, n, 0) _
        refine ex_go (S := (70, [(5, .inl b2), (4, .inl i), (3, .inl 1000), (0, gx_r 7), (1, .inl 0), (2, .inl e)], [gx_r 7], t107, n, 0)) rfl (fun _ => rfl) rfl ?_
        refine gxo_get (a := 7) rfl s107.1 rfl rfl k9 rfl ?_
        refine ex_go (S := (75, [(5, .inl b2), (4, .inl i), (3, .inl 1000), (0, gx_r 7), (1, .inl 0), (2, .inl e)], [.inl b2, gx_r LC], t107, n, 0)) rfl (fun _ => rfl) rfl ?_
        obtain ⟨⟨hLa, hLb⟩, ⟨gL111, hgL111, hkL111⟩, hadd111⟩ := id hL
        obtain ⟨t111, r111, g111, e111, z111, kz111, hz111, cz111⟩ := hadd111 (d + l + 6) n b2 t107 s107.1 (by first | decide | omega)
        refine gx_callo (a := LC) rfl rfl s107.1 hgL111 hkL111 rfl r111 rfl ?_
        have k12 : ai_hv t111 7 2 = some (gx_r LC) := (e111 7 2 (by first | decide | omega)).trans k9
        have k13 : ai_hv t111 7 3 = some (gx_w lw) := (e111 7 3 (by first | decide | omega)).trans k10
        have s111 : cS t111 a107 f107 := ⟨g111, (e111 1 8 (by first | decide | omega)).trans s107.2.1, (e111 1 1 (by first | decide | omega)).trans s107.2.2.1, s107.2.2.2⟩
        show en_ex _ _ _ _ (78, [(5, .inl b2), (4, .inl i), (3, .inl 1000), (0, gx_r 7), (1, .inl 0), (2, .inl e)], [], t111, n, 0) _
        refine gx_iinc (i := 4) (k := 1) rfl (fun _ => rfl) (by first | decide | omega) rfl ?_
        show en_ex _ _ _ _ (81, [(4, .inl (i + 1)), (5, .inl b2), (3, .inl 1000), (0, gx_r 7), (1, .inl 0), (2, .inl e)], [], t111, n, 0) _
        refine ex_go (S := (35, [(4, .inl (i + 1)), (5, .inl b2), (3, .inl 1000), (0, gx_r 7), (1, .inl 0), (2, .inl e)], [], t111, n, 0)) rfl (fun _ => rfl) rfl ?_
        have hf0 : f = 0 := q3c
        have w9 : Ev S m N fh 1 e (a + 1, 0) (a107, f107) := Ev_at w107 (by show a104 = a + 1; omega) (by show f104 = 0; omega)
        subst hf0
        have hT14 := cT_keep (t' := t111) hT (fun c i h => (e111 c i (by first | decide | omega)).trans ((e107 c i (by first | decide | omega)).trans (e104 c i (by first | decide | omega))))
        refine ex_imp (fun o9 h9 => ?_) (ih (i + 1) t111 a107 f107 [(5, .inl b2)] (Or.inr ⟨_, rfl⟩) (by first | decide | omega) (by first | decide | omega) s111 (fun c i h => ((e111 c i (by first | decide | omega)).trans ((e107 c i (by first | decide | omega)).trans (e104 c i (by first | decide | omega)))).trans (hG0 c i h)) hT14 (by first | decide | omega) k12 k13)
        obtain ⟨r9, g0, t9, a9, f9, g1, g2, g3, g4, g5, g6, g7, g8⟩ := h9
        refine ⟨r9, g0, t9, a9, f9, g1, g2, g3, Ev_more (by first | decide | omega) (by first | decide | omega) q3d w9 g4, g5, by omega, (fun _ => rfl), fun s9 hs9 hsa hf9 => ?_⟩
        have hf1 := g7 hf9
        obtain ⟨L1, c1, l1, m1⟩ := q107.2.2.2 s9 ((e104 LC 2 (by first | decide | omega)).trans hs9) (by first | decide | omega) (by first | decide | omega)
        have c1 := Ec_at (p' := (a + 1, 0)) c1 (by show a104 = a + 1; omega) (by first | rfl | (show f104 = 0; omega))
        have hz9 : z111 = s9 + L1.length := Sum.inl.inj (Option.some.inj (kz111.symm.trans m1.1))
        have m3 := cz111 (by first | decide | omega)
        rw [hz9] at m3
        obtain ⟨L2, c2, l2, m2⟩ := g8 (s9 + L1.length + 1) m3.1 (by first | decide | omega) hf9
        have m3 := cLs_then m3 (rfl) (fun j => rfl)
        refine ⟨L1 ++ ([sp_oc S m N a] ++ L2), Ec_more (by first | decide | omega) (by first | decide | omega) q3d w9 c1 c2, ?_, ?_⟩
        · rw [List.length_append, List.length_append]
          show L1.length + (1 + L2.length) + a ≤ a9
          omega
        · rw [q3e] at m3
          exact cLs_app (cLs_pre (fun j => e104 (LC + 2) j (by first | decide | omega)) m1) (cLs_app m3 m2)
    · show en_ex _ _ _ _ (35, [(4, .inl i), (5, .inl bx), (3, .inl 1000), (0, gx_r 7), (1, .inl 0), (2, .inl e)], [], t0, n, 0) _
      refine ex_go (S := (37, [(4, .inl i), (5, .inl bx), (3, .inl 1000), (0, gx_r 7), (1, .inl 0), (2, .inl e)], [.inl i], t0, n, 0)) rfl (fun _ => rfl) rfl ?_
      refine ex_go (S := (38, [(4, .inl i), (5, .inl bx), (3, .inl 1000), (0, gx_r 7), (1, .inl 0), (2, .inl e)], [.inl 1000, .inl i], t0, n, 0)) rfl (fun _ => rfl) rfl ?_
      refine gx_2f (c := .ge) rfl (by first | decide | omega) (by first | decide | omega) (show ¬ (1000 ≤ i) from by omega) rfl ?_
      refine ex_go (S := (42, [(4, .inl i), (5, .inl bx), (3, .inl 1000), (0, gx_r 7), (1, .inl 0), (2, .inl e)], [gx_r 7], t0, n, 0)) rfl (fun _ => rfl) rfl ?_
      refine ex_go (S := (43, [(4, .inl i), (5, .inl bx), (3, .inl 1000), (0, gx_r 7), (1, .inl 0), (2, .inl e)], [.inl 0, gx_r 7], t0, n, 0)) rfl (fun _ => rfl) rfl ?_
      obtain ⟨_, r1, b2, rfl, q3⟩ := pc_operatorHere (d + l + 5) n (s0) hT (by first | decide | omega) (l := 0) (by first | decide | omega)
      rcases q3 with ⟨q3a, q3b⟩ | ⟨q3a, q3b, q3c, q3d, q3e⟩
      · subst q3a
        refine gx_callo (a := 7) rfl rfl s0.1 rfl rfl rfl r1 rfl ?_
        show en_ex _ _ _ _ (46, [(4, .inl i), (5, .inl bx), (3, .inl 1000), (0, gx_r 7), (1, .inl 0), (2, .inl e)], [.inl 0], t0, n, 0) _
        refine ex_go (S := (48, [(5, .inl 0), (4, .inl i), (3, .inl 1000), (0, gx_r 7), (1, .inl 0), (2, .inl e)], [], t0, n, 0)) rfl (fun _ => rfl) rfl ?_
        refine ex_go (S := (50, [(5, .inl 0), (4, .inl i), (3, .inl 1000), (0, gx_r 7), (1, .inl 0), (2, .inl e)], [.inl 0], t0, n, 0)) rfl (fun _ => rfl) rfl ?_
        refine ex_go (S := (53, [(5, .inl 0), (4, .inl i), (3, .inl 1000), (0, gx_r 7), (1, .inl 0), (2, .inl e)], [], t0, n, 0)) rfl (fun _ => rfl) rfl ?_
        refine ex_ret (r := (none, t0, n, 0)) rfl (fun _ => rfl) ?_
        exact ⟨_, rfl, t0, a, f, rfl, s0, (fun c i h => hG0 c i h), Ev_exit (by first | decide | omega) q3b, by omega, by omega, fun z => z, fun s9 h9 _ z => ⟨[], Ec_exit (by first | decide | omega) q3b (by first | decide | omega), by show 0 + a ≤ _; omega, cLs_nil h9 (rfl) (fun j => rfl)⟩⟩
      · refine gx_callo (a := 7) rfl rfl s0.1 rfl rfl rfl r1 rfl ?_
        show en_ex _ _ _ _ (46, [(4, .inl i), (5, .inl bx), (3, .inl 1000), (0, gx_r 7), (1, .inl 0), (2, .inl e)], [.inl b2], t0, n, 0) _
        refine ex_go (S := (48, [(5, .inl b2), (4, .inl i), (3, .inl 1000), (0, gx_r 7), (1, .inl 0), (2, .inl e)], [], t0, n, 0)) rfl (fun _ => rfl) rfl ?_
        refine ex_go (S := (50, [(5, .inl b2), (4, .inl i), (3, .inl 1000), (0, gx_r 7), (1, .inl 0), (2, .inl e)], [.inl b2], t0, n, 0)) rfl (fun _ => rfl) rfl ?_
        refine gx_negt (c := .ne) rfl (by first | decide | omega) (by first | decide | omega) rfl rfl ?_
        refine ex_go (S := (55, [(5, .inl b2), (4, .inl i), (3, .inl 1000), (0, gx_r 7), (1, .inl 0), (2, .inl e)], [gx_r 7], t0, n, 0)) rfl (fun _ => rfl) rfl ?_
        refine gxo_ref (a := 7) (c := 1) rfl s0.1 rfl rfl rfl rfl rfl ?_
        have hltq3 := sp_op_lt q3d
        obtain ⟨_, r104, t104, a104, f104, rfl, s104, e104, q104⟩ := pc_goOn (d + l + 6) n (s0) hT (by first | decide | omega) 
        have b104 := s104.2.2.2
        refine gx_callo (a := 1) rfl rfl s0.1 rfl rfl rfl r104 rfl ?_
        have k5 : ai_hv t104 7 2 = some (gx_r LC) := (e104 7 2 (by first | decide | omega)).trans kL
        have k6 : ai_hv t104 7 3 = some (gx_w lw) := (e104 7 3 (by first | decide | omega)).trans kW
        show en_ex _ _ _ _ (61, [(5, .inl b2), (4, .inl i), (3, .inl 1000), (0, gx_r 7), (1, .inl 0), (2, .inl e)], [], t104, n, 0) _
        refine ex_go (S := (62, [(5, .inl b2), (4, .inl i), (3, .inl 1000), (0, gx_r 7), (1, .inl 0), (2, .inl e)], [gx_r 7], t104, n, 0)) rfl (fun _ => rfl) rfl ?_
        refine ex_go (S := (63, [(5, .inl b2), (4, .inl i), (3, .inl 1000), (0, gx_r 7), (1, .inl 0), (2, .inl e)], [.inl 0, gx_r 7], t104, n, 0)) rfl (fun _ => rfl) rfl ?_
        refine ex_go (S := (64, [(5, .inl b2), (4, .inl i), (3, .inl 1000), (0, gx_r 7), (1, .inl 0), (2, .inl e)], [.inl 1, .inl 0, gx_r 7], t104, n, 0)) rfl (fun _ => rfl) rfl ?_
        refine ex_go (S := (65, [(5, .inl b2), (4, .inl i), (3, .inl 1000), (0, gx_r 7), (1, .inl 0), (2, .inl e)], [.inl 1, gx_r 7], t104, n, 0)) rfl (fun _ => rfl) rfl ?_
        refine ex_go (S := (66, [(5, .inl b2), (4, .inl i), (3, .inl 1000), (0, gx_r 7), (1, .inl 0), (2, .inl e)], [.inl e, .inl 1, gx_r 7], t104, n, 0)) rfl (fun _ => rfl) rfl ?_
        have hT8 := cT_keep (t' := t104) hT (fun c i h => e104 c i (by first | decide | omega))
        obtain ⟨_, r107, t107, a107, f107, rfl, s107, e107, w107, q107⟩ := h d n _ _ _ s104 hT8 (by first | decide | omega) k5 k6
        have b107 := s107.2.2.2
        obtain ⟨⟨hLa107, hLb107⟩, -⟩ := id hL
        refine gx_callo (a := 7) rfl rfl s104.1 rfl rfl rfl r107 rfl ?_
        have k9 : ai_hv t107 7 2 = some (gx_r LC) := (e107 7 2 (by first | decide | omega)).trans k5
        have k10 : ai_hv t107 7 3 = some (gx_w lw) := (e107 7 3 (by first | decide | omega)).trans k6
        show en_ex _ _ _ _ (69, [(5, .inl b2), (4, .inl i), (3, .inl 1000), (0, gx_r 7), (1, .inl 0), (2, .inl e)], [], t107, n, 0) _
        refine ex_go (S := (70, [(5, .inl b2), (4, .inl i), (3, .inl 1000), (0, gx_r 7), (1, .inl 0), (2, .inl e)], [gx_r 7], t107, n, 0)) rfl (fun _ => rfl) rfl ?_
        refine gxo_get (a := 7) rfl s107.1 rfl rfl k9 rfl ?_
        refine ex_go (S := (75, [(5, .inl b2), (4, .inl i), (3, .inl 1000), (0, gx_r 7), (1, .inl 0), (2, .inl e)], [.inl b2, gx_r LC], t107, n, 0)) rfl (fun _ => rfl) rfl ?_
        obtain ⟨⟨hLa, hLb⟩, ⟨gL111, hgL111, hkL111⟩, hadd111⟩ := id hL
        obtain ⟨t111, r111, g111, e111, z111, kz111, hz111, cz111⟩ := hadd111 (d + l + 6) n b2 t107 s107.1 (by first | decide | omega)
        refine gx_callo (a := LC) rfl rfl s107.1 hgL111 hkL111 rfl r111 rfl ?_
        have k12 : ai_hv t111 7 2 = some (gx_r LC) := (e111 7 2 (by first | decide | omega)).trans k9
        have k13 : ai_hv t111 7 3 = some (gx_w lw) := (e111 7 3 (by first | decide | omega)).trans k10
        have s111 : cS t111 a107 f107 := ⟨g111, (e111 1 8 (by first | decide | omega)).trans s107.2.1, (e111 1 1 (by first | decide | omega)).trans s107.2.2.1, s107.2.2.2⟩
        show en_ex _ _ _ _ (78, [(5, .inl b2), (4, .inl i), (3, .inl 1000), (0, gx_r 7), (1, .inl 0), (2, .inl e)], [], t111, n, 0) _
        refine gx_iinc (i := 4) (k := 1) rfl (fun _ => rfl) (by first | decide | omega) rfl ?_
        show en_ex _ _ _ _ (81, [(4, .inl (i + 1)), (5, .inl b2), (3, .inl 1000), (0, gx_r 7), (1, .inl 0), (2, .inl e)], [], t111, n, 0) _
        refine ex_go (S := (35, [(4, .inl (i + 1)), (5, .inl b2), (3, .inl 1000), (0, gx_r 7), (1, .inl 0), (2, .inl e)], [], t111, n, 0)) rfl (fun _ => rfl) rfl ?_
        have hf0 : f = 0 := q3c
        have w9 : Ev S m N fh 1 e (a + 1, 0) (a107, f107) := Ev_at w107 (by show a104 = a + 1; omega) (by show f104 = 0; omega)
        subst hf0
        have hT14 := cT_keep (t' := t111) hT (fun c i h => (e111 c i (by first | decide | omega)).trans ((e107 c i (by first | decide | omega)).trans (e104 c i (by first | decide | omega))))
        refine ex_imp (fun o9 h9 => ?_) (ih (i + 1) t111 a107 f107 [(5, .inl b2)] (Or.inr ⟨_, rfl⟩) (by first | decide | omega) (by first | decide | omega) s111 (fun c i h => ((e111 c i (by first | decide | omega)).trans ((e107 c i (by first | decide | omega)).trans (e104 c i (by first | decide | omega)))).trans (hG0 c i h)) hT14 (by first | decide | omega) k12 k13)
        obtain ⟨r9, g0, t9, a9, f9, g1, g2, g3, g4, g5, g6, g7, g8⟩ := h9
        refine ⟨r9, g0, t9, a9, f9, g1, g2, g3, Ev_more (by first | decide | omega) (by first | decide | omega) q3d w9 g4, g5, by omega, (fun _ => rfl), fun s9 hs9 hsa hf9 => ?_⟩
        have hf1 := g7 hf9
        obtain ⟨L1, c1, l1, m1⟩ := q107.2.2.2 s9 ((e104 LC 2 (by first | decide | omega)).trans hs9) (by first | decide | omega) (by first | decide | omega)
        have c1 := Ec_at (p' := (a + 1, 0)) c1 (by show a104 = a + 1; omega) (by first | rfl | (show f104 = 0; omega))
        have hz9 : z111 = s9 + L1.length := Sum.inl.inj (Option.some.inj (kz111.symm.trans m1.1))
        have m3 := cz111 (by first | decide | omega)
        rw [hz9] at m3
        obtain ⟨L2, c2, l2, m2⟩ := g8 (s9 + L1.length + 1) m3.1 (by first | decide | omega) hf9
        have m3 := cLs_then m3 (rfl) (fun j => rfl)
        refine ⟨L1 ++ ([sp_oc S m N a] ++ L2), Ec_more (by first | decide | omega) (by first | decide | omega) q3d w9 c1 c2, ?_, ?_⟩
        · rw [List.length_append, List.length_append]
          show L1.length + (1 + L2.length) + a ≤ a9
          omega
        · rw [q3e] at m3
          exact cLs_app (cLs_pre (fun j => e104 (LC + 2) j (by first | decide | omega)) m1) (cLs_app m3 m2)
theorem pc_level0 {l e : Nat} (hL : cLaw LC) (h : ∀ d, cRL S m N fh lw LC (d + l + 7) 1 e) (d : Nat) : cRL S m N fh lw LC (d + l + 8) 0 e := by
  intro n t0 a f s0 hT ha kL kW
  have b0 := s0.2.2.2
  have hN := hT.2.2.2.2.2.2.1
  refine en_u_ex (d := d + l + 7) rfl ?_
  show en_ex _ _ _ _ (0, [(0, gx_r 7), (1, .inl 0), (2, .inl e)], [], t0, n, 0) _
  refine ex_go (S := (1, [(0, gx_r 7), (1, .inl 0), (2, .inl e)], [.inl 0], t0, n, 0)) rfl (fun _ => rfl) rfl ?_
  refine ex_go (S := (2, [(0, gx_r 7), (1, .inl 0), (2, .inl e)], [.inl 4, .inl 0], t0, n, 0)) rfl (fun _ => rfl) rfl ?_
  refine ex_go (S := (11, [(0, gx_r 7), (1, .inl 0), (2, .inl e)], [], t0, n, 0)) rfl (fun _ => rfl) rfl ?_
  refine ex_go (S := (12, [(0, gx_r 7), (1, .inl 0), (2, .inl e)], [gx_r 7], t0, n, 0)) rfl (fun _ => rfl) rfl ?_
  refine ex_go (S := (13, [(0, gx_r 7), (1, .inl 0), (2, .inl e)], [.inl 0, gx_r 7], t0, n, 0)) rfl (fun _ => rfl) rfl ?_
  refine ex_go (S := (14, [(0, gx_r 7), (1, .inl 0), (2, .inl e)], [.inl 1, .inl 0, gx_r 7], t0, n, 0)) rfl (fun _ => rfl) rfl ?_
  refine ex_go (S := (15, [(0, gx_r 7), (1, .inl 0), (2, .inl e)], [.inl 1, gx_r 7], t0, n, 0)) rfl (fun _ => rfl) rfl ?_
  refine ex_go (S := (16, [(0, gx_r 7), (1, .inl 0), (2, .inl e)], [.inl e, .inl 1, gx_r 7], t0, n, 0)) rfl (fun _ => rfl) rfl ?_
  obtain ⟨_, r101, t101, a101, f101, rfl, s101, e101, w101, q101⟩ := h d n _ _ _ s0 hT (by first | decide | omega) kL kW
  have b101 := s101.2.2.2
  obtain ⟨⟨hLa101, hLb101⟩, -⟩ := id hL
  refine gx_callo (a := 7) rfl rfl s0.1 rfl rfl rfl r101 rfl ?_
  have k2 : ai_hv t101 7 2 = some (gx_r LC) := (e101 7 2 (by first | decide | omega)).trans kL
  have k3 : ai_hv t101 7 3 = some (gx_w lw) := (e101 7 3 (by first | decide | omega)).trans kW
  show en_ex _ _ _ _ (19, [(0, gx_r 7), (1, .inl 0), (2, .inl e)], [], t101, n, 0) _
  refine ex_go (S := (20, [(0, gx_r 7), (1, .inl 0), (2, .inl e)], [.inl 0], t101, n, 0)) rfl (fun _ => rfl) rfl ?_
  refine ex_go (S := (21, [(0, gx_r 7), (1, .inl 0), (2, .inl e)], [.inl 1, .inl 0], t101, n, 0)) rfl (fun _ => rfl) rfl ?_
  refine ex_go (S := (28, [(0, gx_r 7), (1, .inl 0), (2, .inl e)], [], t101, n, 0)) rfl (fun _ => rfl) rfl ?_
  refine ex_go (S := (31, [(0, gx_r 7), (1, .inl 0), (2, .inl e)], [.inl 1000], t101, n, 0)) rfl (fun _ => rfl) rfl ?_
  refine ex_go (S := (32, [(3, .inl 1000), (0, gx_r 7), (1, .inl 0), (2, .inl e)], [], t101, n, 0)) rfl (fun _ => rfl) rfl ?_
  refine ex_go (S := (33, [(3, .inl 1000), (0, gx_r 7), (1, .inl 0), (2, .inl e)], [.inl 0], t101, n, 0)) rfl (fun _ => rfl) rfl ?_
  refine ex_go (S := (35, [(4, .inl 0), (3, .inl 1000), (0, gx_r 7), (1, .inl 0), (2, .inl e)], [], t101, n, 0)) rfl (fun _ => rfl) rfl ?_
  have hT4 := cT_keep (t' := t101) hT (fun c i h => e101 c i (by first | decide | omega))
  refine ex_imp (fun o9 h9 => ?_) (pc_level0_l hL h d n (tb := t0) 1000 0 t101 a101 f101 [] (Or.inl rfl) (by first | decide | omega) (by first | decide | omega) s101 (fun c i h => e101 c i (by first | decide | omega)) hT4 (by first | decide | omega) k2 k3)
  obtain ⟨r9, g0, t9, a9, f9, g1, g2, g3, g4, g5, g6, g7, g8⟩ := h9
  refine ⟨r9, g0, t9, a9, f9, g1, g2, g3, Ev_seq (by first | decide | omega) w101 g4, g5, by omega, (fun z => by have := g7 z; omega), fun s9 hs9 hsa hf9 => ?_⟩
  have hf1 := g7 hf9
  obtain ⟨L1, c1, l1, m1⟩ := q101.2.2.2 s9 hs9 hsa hf1
  obtain ⟨L2, c2, l2, m2⟩ := g8 (s9 + L1.length) m1.1 (by first | decide | omega) hf9
  exact ⟨L1 ++ L2, Ec_seq (by first | decide | omega) (by first | decide | omega) w101 c1 c2, by rw [List.length_append]; omega, cLs_app m1 m2⟩
theorem pc_readPart5 (hL : cLaw LC) (hF : cFh lw fh) (d : Nat) : cRP S m N fh lw LC (d + 3) 5 := by
  intro n t0 a f s0 hT ha kL kW
  have b0 := s0.2.2.2
  have hN := hT.2.2.2.2.2.2.1
  obtain ⟨⟨hLa, hLb⟩, -⟩ := id hL
  refine en_u_ex (d := d + 2) rfl ?_
  show en_ex _ _ _ _ (0, [(0, gx_r 7), (1, .inl 5)], [], t0, n, 0) _
  refine ex_go (S := (1, [(0, gx_r 7), (1, .inl 5)], [gx_r 7], t0, n, 0)) rfl (fun _ => rfl) rfl ?_
  obtain ⟨_, r1, b2, rfl, q3⟩ := pc_beginsPart (d) n (s0) hT (by first | decide | omega) hF kW
  refine gx_callo (a := 7) rfl rfl s0.1 rfl rfl rfl r1 rfl ?_
  show en_ex _ _ _ _ (4, [(0, gx_r 7), (1, .inl 5)], [.inl b2], t0, n, 0) _
  by_cases hc4 : b2 ≠ 0
  · refine gx_1t (c := .ne) rfl (by first | decide | omega) hc4 rfl ?_
    refine ex_go (S := (19, [(0, gx_r 7), (1, .inl 5)], [.inl 5], t0, n, 0)) rfl (fun _ => rfl) rfl ?_
    refine ex_go (S := (20, [(0, gx_r 7), (1, .inl 5)], [.inl 5, .inl 5], t0, n, 0)) rfl (fun _ => rfl) rfl ?_
    refine ex_go (S := (23, [(0, gx_r 7), (1, .inl 5)], [], t0, n, 0)) rfl (fun _ => rfl) rfl ?_
    refine ex_go (S := (24, [(0, gx_r 7), (1, .inl 5)], [gx_r 7], t0, n, 0)) rfl (fun _ => rfl) rfl ?_
    refine gxo_ref (a := 7) (c := 1) rfl s0.1 rfl rfl rfl rfl rfl ?_
    refine ex_go (S := (28, [(0, gx_r 7), (1, .inl 5)], [.inl 5, gx_r 1], t0, n, 0)) rfl (fun _ => rfl) rfl ?_
    have hb9 : sp_bp S m N fh a := q3.2.mp (by first | decide | omega)
    obtain ⟨_, r105, t105, a105, f105, rfl, s105, e105, q105⟩ := pc_wrong (d + 1) n (s0) hT (by first | decide | omega) (w := 5) (by first | decide | omega)
    have b105 := s105.2.2.2
    refine gx_callo (a := 1) rfl rfl s0.1 rfl rfl rfl r105 rfl ?_
    have k6 : ai_hv t105 7 2 = some (gx_r LC) := (e105 7 2 (by first | decide | omega)).trans kL
    have k7 : ai_hv t105 7 3 = some (gx_w lw) := (e105 7 3 (by first | decide | omega)).trans kW
    show en_ex _ _ _ _ (31, [(0, gx_r 7), (1, .inl 5)], [], t105, n, 0) _
    refine ex_go (S := (32, [(0, gx_r 7), (1, .inl 5)], [gx_r 7], t105, n, 0)) rfl (fun _ => rfl) rfl ?_
    refine gxo_ref (a := 7) (c := 1) rfl s105.1 rfl rfl rfl rfl rfl ?_
    refine gxo_get (a := 1) rfl s105.1 rfl rfl s105.2.2.1 rfl ?_
    refine gx_1f (c := .eq) rfl (by first | decide | omega) (show ¬ (f105 = 0) from by omega) rfl ?_
    refine ex_ret (r := (none, t105, n, 0)) rfl (fun _ => rfl) ?_
    refine ⟨_, rfl, t105, a105, f105, rfl, s105, (fun c i h => e105 c i (by first | decide | omega)), ?_, by omega, by omega, by omega, fun s9 _ _ z => absurd z (by first | decide | omega)⟩
    by_cases h0 : f = 0
    · exact Ev_at (Ev_to (Ev_p5 hb9) (by show a = a105; omega) (by show 5 + 16 * sp_st S m a = f105; omega)) rfl (by show 0 = f; omega)
    · exact Ev_to (Ev_no h0) (by show a = a105; omega) (by show f = f105; omega)
  · refine gx_1f (c := .ne) rfl (by first | decide | omega) hc4 rfl ?_
    refine ex_go (S := (8, [(0, gx_r 7), (1, .inl 5)], [gx_r 7], t0, n, 0)) rfl (fun _ => rfl) rfl ?_
    refine gxo_ref (a := 7) (c := 1) rfl s0.1 rfl rfl rfl rfl rfl ?_
    refine ex_go (S := (12, [(0, gx_r 7), (1, .inl 5)], [.inl 1, gx_r 1], t0, n, 0)) rfl (fun _ => rfl) rfl ?_
    have hnb9 : ¬ sp_bp S m N fh a := fun z => absurd (q3.2.mpr z) (by first | decide | omega)
    obtain ⟨_, r108, t108, a108, f108, rfl, s108, e108, q108⟩ := pc_wrong (d + 1) n (s0) hT (by first | decide | omega) (w := 1) (by first | decide | omega)
    have b108 := s108.2.2.2
    refine gx_callo (a := 1) rfl rfl s0.1 rfl rfl rfl r108 rfl ?_
    have k9 : ai_hv t108 7 2 = some (gx_r LC) := (e108 7 2 (by first | decide | omega)).trans kL
    have k10 : ai_hv t108 7 3 = some (gx_w lw) := (e108 7 3 (by first | decide | omega)).trans kW
    show en_ex _ _ _ _ (15, [(0, gx_r 7), (1, .inl 5)], [], t108, n, 0) _
    refine ex_go (S := (31, [(0, gx_r 7), (1, .inl 5)], [], t108, n, 0)) rfl (fun _ => rfl) rfl ?_
    refine ex_go (S := (32, [(0, gx_r 7), (1, .inl 5)], [gx_r 7], t108, n, 0)) rfl (fun _ => rfl) rfl ?_
    refine gxo_ref (a := 7) (c := 1) rfl s108.1 rfl rfl rfl rfl rfl ?_
    refine gxo_get (a := 1) rfl s108.1 rfl rfl s108.2.2.1 rfl ?_
    refine gx_1f (c := .eq) rfl (by first | decide | omega) (show ¬ (f108 = 0) from by omega) rfl ?_
    refine ex_ret (r := (none, t108, n, 0)) rfl (fun _ => rfl) ?_
    refine ⟨_, rfl, t108, a108, f108, rfl, s108, (fun c i h => e108 c i (by first | decide | omega)), ?_, by omega, by omega, by omega, fun s9 _ _ z => absurd z (by first | decide | omega)⟩
    by_cases h0 : f = 0
    · exact Ev_at (Ev_to (Ev_p1 hnb9) (by show a = a108; omega) (by show 1 + 16 * sp_st S m a = f108; omega)) rfl (by show 0 = f; omega)
    · exact Ev_to (Ev_no h0) (by show a = a108; omega) (by show f = f108; omega)
theorem pc_readPart {l e : Nat} (hL : cLaw LC) (hF : cFh lw fh) (hP : ∀ d, cRP S m N fh lw LC (d + l + 3) (e + 1)) (hR : ∀ d, cRL S m N fh lw LC (d + l + 8) 0 (e + 1)) (he : e ≤ 4) (d : Nat) : cRP S m N fh lw LC (d + l + 9) e := by
  intro n t0 a f s0 hT ha kL kW
  have b0 := s0.2.2.2
  have hN := hT.2.2.2.2.2.2.1
  obtain ⟨⟨hLa, hLb⟩, -⟩ := id hL
  have he5 : e ≠ 5 := by omega
  have hP8 : ∀ d, cRP S m N fh lw LC (d + l + 8) (e + 1) := fun d => by
    have h9 := hP (d + 5)
    rw [show d + 5 + l + 3 = d + l + 8 by omega] at h9
    exact h9
  refine en_u_ex (d := d + l + 8) rfl ?_
  show en_ex _ _ _ _ (0, [(0, gx_r 7), (1, .inl e)], [], t0, n, 0) _
  refine ex_go (S := (1, [(0, gx_r 7), (1, .inl e)], [gx_r 7], t0, n, 0)) rfl (fun _ => rfl) rfl ?_
  obtain ⟨_, r1, b2, rfl, q3⟩ := pc_beginsPart (d + l + 6) n (s0) hT (by first | decide | omega) hF kW
  refine gx_callo (a := 7) rfl rfl s0.1 rfl rfl rfl r1 rfl ?_
  show en_ex _ _ _ _ (4, [(0, gx_r 7), (1, .inl e)], [.inl b2], t0, n, 0) _
  by_cases hc4 : b2 ≠ 0
  · refine gx_1t (c := .ne) rfl (by first | decide | omega) hc4 rfl ?_
    refine ex_go (S := (19, [(0, gx_r 7), (1, .inl e)], [.inl e], t0, n, 0)) rfl (fun _ => rfl) rfl ?_
    refine ex_go (S := (20, [(0, gx_r 7), (1, .inl e)], [.inl 5, .inl e], t0, n, 0)) rfl (fun _ => rfl) rfl ?_
    refine gx_2t (c := .lt) rfl (by first | decide | omega) (by first | decide | omega) (show e < 5 from by omega) rfl ?_
    refine ex_go (S := (32, [(0, gx_r 7), (1, .inl e)], [gx_r 7], t0, n, 0)) rfl (fun _ => rfl) rfl ?_
    refine gxo_ref (a := 7) (c := 1) rfl s0.1 rfl rfl rfl rfl rfl ?_
    refine gxo_get (a := 1) rfl s0.1 rfl rfl s0.2.2.1 rfl ?_
    by_cases hc5 : f = 0
    · refine gx_1t (c := .eq) rfl (by first | decide | omega) hc5 rfl ?_
      have hb9 : sp_bp S m N fh a := q3.2.mp (by first | decide | omega)
      refine ex_go (S := (43, [(0, gx_r 7), (1, .inl e)], [gx_r 7], t0, n, 0)) rfl (fun _ => rfl) rfl ?_
      refine gxo_ref (a := 7) (c := 1) rfl s0.1 rfl rfl rfl rfl rfl ?_
      obtain ⟨_, r106, v106, rfl, q106⟩ := pc_isNumber (d + l + 7) n (s0) hT (by first | decide | omega) 
      refine gx_callo (a := 1) rfl rfl s0.1 rfl rfl rfl r106 rfl ?_
      show en_ex _ _ _ _ (49, [(0, gx_r 7), (1, .inl e)], [.inl v106], t0, n, 0) _
      by_cases hc7 : v106 = 0
      · refine gx_1t (c := .eq) rfl (by first | decide | omega) hc7 rfl ?_
        refine ex_go (S := (77, [(0, gx_r 7), (1, .inl e)], [gx_r 7], t0, n, 0)) rfl (fun _ => rfl) rfl ?_
        refine gxo_ref (a := 7) (c := 1) rfl s0.1 rfl rfl rfl rfl rfl ?_
        refine ex_go (S := (82, [(0, gx_r 7), (1, .inl e)], [.inl 40, gx_r 1], t0, n, 0)) rfl (fun _ => rfl) rfl ?_
        obtain ⟨_, r108, v108, rfl, q108⟩ := pc_isSign (d + l + 7) n (s0) hT (by first | decide | omega) (w := 40) (by first | decide | omega)
        refine gx_callo (a := 1) rfl rfl s0.1 rfl rfl rfl r108 rfl ?_
        show en_ex _ _ _ _ (85, [(0, gx_r 7), (1, .inl e)], [.inl v108], t0, n, 0) _
        by_cases hc9 : v108 = 0
        · refine gx_1t (c := .eq) rfl (by first | decide | omega) hc9 rfl ?_
          refine ex_go (S := (116, [(0, gx_r 7), (1, .inl e)], [gx_r 7], t0, n, 0)) rfl (fun _ => rfl) rfl ?_
          refine gxo_ref (a := 7) (c := 1) rfl s0.1 rfl rfl rfl rfl rfl ?_
          refine ex_go (S := (122, [(0, gx_r 7), (1, .inl e)], [gx_w 35, gx_r 1], t0, n, 0)) rfl (fun _ => rfl) rfl ?_
          obtain ⟨_, r110, v110, rfl, q110⟩ := pc_isWord (d + l + 7) n (s0) hT (by first | decide | omega) (w := 35) (by first | decide | omega)
          refine gx_callo (a := 1) rfl rfl s0.1 rfl rfl rfl r110 rfl ?_
          show en_ex _ _ _ _ (125, [(0, gx_r 7), (1, .inl e)], [.inl v110], t0, n, 0) _
          by_cases hc11 : v110 = 0
          · refine gx_1t (c := .eq) rfl (by first | decide | omega) hc11 rfl ?_
            have hw9 : ¬ sp_wd S m N a 35 := fun z => absurd (q110.2.mpr z) (by first | decide | omega)
            have hs9 : ¬ sp_sg S m N a 40 := fun z => absurd (q108.2.mpr z) (by first | decide | omega)
            have hlt9 : a < N := by
              rcases hb9 with z | ⟨j, j1, j2, j3⟩ | z | z
              · exact absurd (q106.2.mpr z) (by first | decide | omega)
              · exact j2.1
              · exact z.1
              · exact z.1
            refine ex_go (S := (154, [(0, gx_r 7), (1, .inl e)], [gx_r 7], t0, n, 0)) rfl (fun _ => rfl) rfl ?_
            refine ex_go (S := (155, [(0, gx_r 7), (1, .inl e)], [gx_r 7, gx_r 7], t0, n, 0)) rfl (fun _ => rfl) rfl ?_
            refine gxo_ref (a := 7) (c := 1) rfl s0.1 rfl rfl rfl rfl rfl ?_
            obtain ⟨_, r112, wv112, rfl, q112⟩ := pc_word (d + l + 7) n (s0) hT (by first | decide | omega)
            rcases q112 with ⟨rfl, nw112⟩ | ⟨w112, bw112, rfl, yw112⟩
            · refine gx_callo (a := 1) rfl rfl s0.1 rfl rfl rfl r112 rfl ?_
              show en_ex _ _ _ _ (161, [(0, gx_r 7), (1, .inl e)], [.inr (.inr (.inl none)), gx_r 7], t0, n, 0) _
              obtain ⟨_, r113, t113, rfl, s113, e113⟩ := pc_addFact0 (d + l + 6) n (s0) hL kL
              obtain ⟨⟨hLa113, hLb113⟩, -⟩ := id hL
              refine gx_callo (a := 7) rfl rfl s0.1 rfl rfl rfl r113 rfl ?_
              have k14 : ai_hv t113 7 2 = some (gx_r LC) := (e113 7 2 (by first | decide | omega)).trans kL
              have k15 : ai_hv t113 7 3 = some (gx_w lw) := (e113 7 3 (by first | decide | omega)).trans kW
              show en_ex _ _ _ _ (164, [(0, gx_r 7), (1, .inl e)], [], t113, n, 0) _
              refine ex_go (S := (165, [(0, gx_r 7), (1, .inl e)], [gx_r 7], t113, n, 0)) rfl (fun _ => rfl) rfl ?_
              refine gxo_ref (a := 7) (c := 1) rfl s113.1 rfl rfl rfl rfl rfl ?_
              have hT17 := cT_keep (t' := t113) hT (fun c i h => e113 c i (by first | decide | omega))
              obtain ⟨_, r116, t116, a116, f116, rfl, s116, e116, q116⟩ := pc_goOn (d + l + 7) n (s113) hT17 (by first | decide | omega) 
              have b116 := s116.2.2.2
              refine gx_callo (a := 1) rfl rfl s113.1 rfl rfl rfl r116 rfl ?_
              have k18 : ai_hv t116 7 2 = some (gx_r LC) := (e116 7 2 (by first | decide | omega)).trans k14
              have k19 : ai_hv t116 7 3 = some (gx_w lw) := (e116 7 3 (by first | decide | omega)).trans k15
              show en_ex _ _ _ _ (171, [(0, gx_r 7), (1, .inl e)], [], t116, n, 0) _
              refine ex_ret (r := (none, t116, n, 0)) rfl (fun _ => rfl) ?_
              exfalso
              rcases hb9 with z | ⟨j, j1, j2, j3⟩ | z | z
              · exact absurd (q106.2.mpr z) (by first | decide | omega)
              · exact nw112 _ (by first | decide | omega) j2
              · exact hs9 z
              · exact hw9 z
            · refine gx_callo (a := 1) rfl rfl s0.1 rfl rfl rfl r112 rfl ?_
              show en_ex _ _ _ _ (161, [(0, gx_r 7), (1, .inl e)], [gx_w w112, gx_r 7], t0, n, 0) _
              obtain ⟨_, r120, t120, rfl, s120, e120, z120, kz120, hz120, cz120⟩ := pc_addFact1 (d + l + 6) n (s0) (w := w112) (by first | decide | omega) hL kL
              obtain ⟨⟨hLa120, hLb120⟩, -⟩ := id hL
              refine gx_callo (a := 7) rfl rfl s0.1 rfl rfl rfl r120 rfl ?_
              have k21 : ai_hv t120 7 2 = some (gx_r LC) := (e120 7 2 (by first | decide | omega)).trans kL
              have k22 : ai_hv t120 7 3 = some (gx_w lw) := (e120 7 3 (by first | decide | omega)).trans kW
              show en_ex _ _ _ _ (164, [(0, gx_r 7), (1, .inl e)], [], t120, n, 0) _
              refine ex_go (S := (165, [(0, gx_r 7), (1, .inl e)], [gx_r 7], t120, n, 0)) rfl (fun _ => rfl) rfl ?_
              refine gxo_ref (a := 7) (c := 1) rfl s120.1 rfl rfl rfl rfl rfl ?_
              have hT24 := cT_keep (t' := t120) hT (fun c i h => e120 c i (by first | decide | omega))
              obtain ⟨_, r123, t123, a123, f123, rfl, s123, e123, q123⟩ := pc_goOn (d + l + 7) n (s120) hT24 (by first | decide | omega) 
              have b123 := s123.2.2.2
              refine gx_callo (a := 1) rfl rfl s120.1 rfl rfl rfl r123 rfl ?_
              have k25 : ai_hv t123 7 2 = some (gx_r LC) := (e123 7 2 (by first | decide | omega)).trans k21
              have k26 : ai_hv t123 7 3 = some (gx_w lw) := (e123 7 3 (by first | decide | omega)).trans k22
              show en_ex _ _ _ _ (171, [(0, gx_r 7), (1, .inl e)], [], t123, n, 0) _
              refine ex_ret (r := (none, t123, n, 0)) rfl (fun _ => rfl) ?_
              refine ⟨_, rfl, t123, a123, f123, rfl, s123, (fun c i h => (e123 c i (by first | decide | omega)).trans (e120 c i (by first | decide | omega))), Ev_at (Ev_to (Ev_one he5 hw9 hs9 hb9) (by show a + 1 = a123; omega) (by show 0 = f123; omega)) rfl (by show 0 = f; omega), by omega, by omega, by omega, fun s9 hs9b hsa hf9 => ?_⟩
              have hwt : w112 = 38 ∨ w112 = 39 ∨ w112 = 40 ∨ w112 = 41 := by
                rcases hb9 with z | ⟨j, j1, j2, j3⟩ | z | z
                · exact absurd (q106.2.mpr z) (by first | decide | omega)
                · have := sp_wd_one (by first | decide | omega) (by first | decide | omega) yw112 j2; omega
                · exact absurd z hs9
                · exact absurd z hw9
              have hs9k := hs9
              have hs9 := hs9b
              have htk9 : wd_r w112 = sp_tk S m N a := (tk_wd hwt yw112).symm
              have hz9 : z120 = s9 := Sum.inl.inj (Option.some.inj (kz120.symm.trans hs9))
              have m3 := cz120 (by first | decide | omega)
              rw [hz9, htk9] at m3
              refine ⟨[sp_tk S m N a], Ec_at (Ec_one hw9 hs9k) rfl (by show 0 = f; omega), by show 1 + a ≤ _; omega, ?_⟩
              exact cLs_then m3 (e123 LC 2 (by first | decide | omega)) (fun j => e123 (LC + 2) j (by first | decide | omega))
          · refine gx_1f (c := .eq) rfl (by first | decide | omega) hc11 rfl ?_
            have hnot := q110.2.mp (by first | decide | omega)
            have hlt9 : a < N := hnot.1
            refine ex_go (S := (129, [(0, gx_r 7), (1, .inl e)], [gx_r 7], t0, n, 0)) rfl (fun _ => rfl) rfl ?_
            refine gxo_ref (a := 7) (c := 1) rfl s0.1 rfl rfl rfl rfl rfl ?_
            obtain ⟨_, r127, t127, a127, f127, rfl, s127, e127, q127⟩ := pc_goOn (d + l + 7) n (s0) hT (by first | decide | omega) 
            have b127 := s127.2.2.2
            refine gx_callo (a := 1) rfl rfl s0.1 rfl rfl rfl r127 rfl ?_
            have k28 : ai_hv t127 7 2 = some (gx_r LC) := (e127 7 2 (by first | decide | omega)).trans kL
            have k29 : ai_hv t127 7 3 = some (gx_w lw) := (e127 7 3 (by first | decide | omega)).trans kW
            show en_ex _ _ _ _ (135, [(0, gx_r 7), (1, .inl e)], [], t127, n, 0) _
            refine ex_go (S := (136, [(0, gx_r 7), (1, .inl e)], [gx_r 7], t127, n, 0)) rfl (fun _ => rfl) rfl ?_
            refine ex_go (S := (137, [(0, gx_r 7), (1, .inl e)], [.inl e, gx_r 7], t127, n, 0)) rfl (fun _ => rfl) rfl ?_
            refine ex_go (S := (138, [(0, gx_r 7), (1, .inl e)], [.inl 1, .inl e, gx_r 7], t127, n, 0)) rfl (fun _ => rfl) rfl ?_
            refine ex_iadd rfl (by first | decide | omega) rfl ?_
            have hT31 := cT_keep (t' := t127) hT (fun c i h => e127 c i (by first | decide | omega))
            obtain ⟨_, r130, t130, a130, f130, rfl, s130, e130, w130, q130⟩ := hP8 d n _ _ _ s127 hT31 (by first | decide | omega) k28 k29
            have b130 := s130.2.2.2
            obtain ⟨⟨hLa130, hLb130⟩, -⟩ := id hL
            refine gx_callo (a := 7) rfl rfl s127.1 rfl rfl rfl r130 rfl ?_
            have k32 : ai_hv t130 7 2 = some (gx_r LC) := (e130 7 2 (by first | decide | omega)).trans k28
            have k33 : ai_hv t130 7 3 = some (gx_w lw) := (e130 7 3 (by first | decide | omega)).trans k29
            show en_ex _ _ _ _ (142, [(0, gx_r 7), (1, .inl e)], [], t130, n, 0) _
            refine ex_go (S := (143, [(0, gx_r 7), (1, .inl e)], [gx_r 7], t130, n, 0)) rfl (fun _ => rfl) rfl ?_
            refine gxo_get (a := 7) rfl s130.1 rfl rfl k32 rfl ?_
            refine ex_go (S := (147, [(0, gx_r 7), (1, .inl e)], [.inl 4294967295, gx_r LC], t130, n, 0)) rfl (fun _ => rfl) rfl ?_
            obtain ⟨⟨hLa, hLb⟩, ⟨gL134, hgL134, hkL134⟩, hadd134⟩ := id hL
            obtain ⟨t134, r134, g134, e134, z134, kz134, hz134, cz134⟩ := hadd134 (d + l + 7) n 4294967295 t130 s130.1 (by first | decide | omega)
            refine gx_callo (a := LC) rfl rfl s130.1 hgL134 hkL134 rfl r134 rfl ?_
            have k35 : ai_hv t134 7 2 = some (gx_r LC) := (e134 7 2 (by first | decide | omega)).trans k32
            have k36 : ai_hv t134 7 3 = some (gx_w lw) := (e134 7 3 (by first | decide | omega)).trans k33
            have s134 : cS t134 a130 f130 := ⟨g134, (e134 1 8 (by first | decide | omega)).trans s130.2.1, (e134 1 1 (by first | decide | omega)).trans s130.2.2.1, s130.2.2.2⟩
            show en_ex _ _ _ _ (150, [(0, gx_r 7), (1, .inl e)], [], t134, n, 0) _
            refine ex_go (S := (171, [(0, gx_r 7), (1, .inl e)], [], t134, n, 0)) rfl (fun _ => rfl) rfl ?_
            refine ex_ret (r := (none, t134, n, 0)) rfl (fun _ => rfl) ?_
            have w9 : Ev S m N fh 4 (e + 1) (a + 1, 0) (a130, f130) := Ev_at w130 (by show a127 = a + 1; omega) (by show f127 = 0; omega)
            refine ⟨_, rfl, t134, a130, f130, rfl, s134, (fun c i h => (e134 c i (by first | decide | omega)).trans ((e130 c i (by first | decide | omega)).trans (e127 c i (by first | decide | omega)))), Ev_at (Ev_not he5 hnot w9) rfl (by show 0 = f; omega), by omega, by omega, by omega, fun s8 hs8 hsa hf9 => ?_⟩
            obtain ⟨L1, c1, l1, m1⟩ := q130.2.2.2 s8 ((e127 LC 2 (by first | decide | omega)).trans hs8) (by first | decide | omega) (by first | decide | omega)
            have c1 := Ec_at (p' := (a + 1, 0)) c1 (by show a127 = a + 1; omega) (by first | rfl | (show f127 = 0; omega))
            have hz9 : z134 = s8 + L1.length := Sum.inl.inj (Option.some.inj (kz134.symm.trans m1.1))
            have m3 := cz134 (by first | decide | omega)
            rw [hz9] at m3
            refine ⟨L1 ++ [4294967295], Ec_at (Ec_not hnot c1) rfl (by show 0 = f; omega), ?_, ?_⟩
            · rw [List.length_append]
              show L1.length + 1 + a ≤ _
              omega
            · exact cLs_then (cLs_app (cLs_pre (fun j => e127 (LC + 2) j (by first | decide | omega)) m1) m3) (rfl) (fun j => rfl)
        · refine gx_1f (c := .eq) rfl (by first | decide | omega) hc9 rfl ?_
          have hs9 := q108.2.mp (by first | decide | omega)
          have hlt9 : a < N := hs9.1
          refine ex_go (S := (89, [(0, gx_r 7), (1, .inl e)], [gx_r 7], t0, n, 0)) rfl (fun _ => rfl) rfl ?_
          refine gxo_ref (a := 7) (c := 1) rfl s0.1 rfl rfl rfl rfl rfl ?_
          obtain ⟨_, r137, t137, a137, f137, rfl, s137, e137, q137⟩ := pc_goOn (d + l + 7) n (s0) hT (by first | decide | omega) 
          have b137 := s137.2.2.2
          refine gx_callo (a := 1) rfl rfl s0.1 rfl rfl rfl r137 rfl ?_
          have k38 : ai_hv t137 7 2 = some (gx_r LC) := (e137 7 2 (by first | decide | omega)).trans kL
          have k39 : ai_hv t137 7 3 = some (gx_w lw) := (e137 7 3 (by first | decide | omega)).trans kW
          show en_ex _ _ _ _ (95, [(0, gx_r 7), (1, .inl e)], [], t137, n, 0) _
          refine ex_go (S := (96, [(0, gx_r 7), (1, .inl e)], [gx_r 7], t137, n, 0)) rfl (fun _ => rfl) rfl ?_
          refine ex_go (S := (97, [(0, gx_r 7), (1, .inl e)], [.inl 0, gx_r 7], t137, n, 0)) rfl (fun _ => rfl) rfl ?_
          refine ex_go (S := (98, [(0, gx_r 7), (1, .inl e)], [.inl e, .inl 0, gx_r 7], t137, n, 0)) rfl (fun _ => rfl) rfl ?_
          refine ex_go (S := (99, [(0, gx_r 7), (1, .inl e)], [.inl 1, .inl e, .inl 0, gx_r 7], t137, n, 0)) rfl (fun _ => rfl) rfl ?_
          refine ex_iadd rfl (by first | decide | omega) rfl ?_
          have hT41 := cT_keep (t' := t137) hT (fun c i h => e137 c i (by first | decide | omega))
          obtain ⟨_, r140, t140, a140, f140, rfl, s140, e140, w140, q140⟩ := hR d n _ _ _ s137 hT41 (by first | decide | omega) k38 k39
          have b140 := s140.2.2.2
          obtain ⟨⟨hLa140, hLb140⟩, -⟩ := id hL
          refine gx_callo (a := 7) rfl rfl s137.1 rfl rfl rfl r140 rfl ?_
          have k42 : ai_hv t140 7 2 = some (gx_r LC) := (e140 7 2 (by first | decide | omega)).trans k38
          have k43 : ai_hv t140 7 3 = some (gx_w lw) := (e140 7 3 (by first | decide | omega)).trans k39
          show en_ex _ _ _ _ (103, [(0, gx_r 7), (1, .inl e)], [], t140, n, 0) _
          refine ex_go (S := (104, [(0, gx_r 7), (1, .inl e)], [gx_r 7], t140, n, 0)) rfl (fun _ => rfl) rfl ?_
          refine gxo_ref (a := 7) (c := 1) rfl s140.1 rfl rfl rfl rfl rfl ?_
          refine ex_go (S := (109, [(0, gx_r 7), (1, .inl e)], [.inl 41, gx_r 1], t140, n, 0)) rfl (fun _ => rfl) rfl ?_
          have hT45 := cT_keep (t' := t140) hT (fun c i h => (e140 c i (by first | decide | omega)).trans (e137 c i (by first | decide | omega)))
          obtain ⟨_, r144, t144, a144, f144, rfl, s144, e144, z144, q144⟩ := pc_takeSign (d + l + 6) n (s140) hT45 (by first | decide | omega) (w := 41) (by first | decide | omega)
          have b144 := s144.2.2.2
          have y144 := z144.trans (congrArg (fs S m N 41) (rfl : (a140, f140) = (a140, f140)))
          refine gx_callo (a := 1) rfl rfl s140.1 rfl rfl rfl r144 rfl ?_
          have k46 : ai_hv t144 7 2 = some (gx_r LC) := (e144 7 2 (by first | decide | omega)).trans k42
          have k47 : ai_hv t144 7 3 = some (gx_w lw) := (e144 7 3 (by first | decide | omega)).trans k43
          show en_ex _ _ _ _ (112, [(0, gx_r 7), (1, .inl e)], [], t144, n, 0) _
          refine ex_go (S := (171, [(0, gx_r 7), (1, .inl e)], [], t144, n, 0)) rfl (fun _ => rfl) rfl ?_
          refine ex_ret (r := (none, t144, n, 0)) rfl (fun _ => rfl) ?_
          have hw9 : ¬ sp_wd S m N a 35 := fun z => by have := (sp_wd_kt z).1; have := (sp_sg_kt.mp hs9).1; omega
          have w9 : Ev S m N fh 0 (e + 1) (a + 1, 0) (a140, f140) := Ev_at w140 (by show a137 = a + 1; omega) (by show f137 = 0; omega)
          refine ⟨_, rfl, t144, a144, f144, rfl, s144, (fun c i h => (e144 c i (by first | decide | omega)).trans ((e140 c i (by first | decide | omega)).trans (e137 c i (by first | decide | omega)))), by rw [z144]; exact Ev_at (Ev_in he5 hw9 hs9 w9) rfl (by show 0 = f; omega), by omega, by omega, by omega, fun s8 hs8 hsa hf9 => ?_⟩
          obtain ⟨L1, c1, l1, m1⟩ := q140.2.2.2 s8 ((e137 LC 2 (by first | decide | omega)).trans hs8) (by first | decide | omega) (by first | decide | omega)
          have c1 := Ec_at (p' := (a + 1, 0)) c1 (by show a137 = a + 1; omega) (by first | rfl | (show f137 = 0; omega))
          exact ⟨L1, Ec_at (Ec_in hw9 hs9 c1) rfl (by show 0 = f; omega), by omega, cLs_then (cLs_pre (fun j => e137 (LC + 2) j (by first | decide | omega)) m1) (e144 LC 2 (by first | decide | omega)) (fun j => e144 (LC + 2) j (by first | decide | omega))⟩
      · refine gx_1f (c := .eq) rfl (by first | decide | omega) hc7 rfl ?_
        have hkt : sp_kt S m N a = 2 := q106.2.mp (by first | decide | omega)
        have hlt9 := sp_kt_lt (S := S) (m := m) (N := N) (a := a) (by first | decide | omega)
        refine ex_go (S := (53, [(0, gx_r 7), (1, .inl e)], [gx_r 7], t0, n, 0)) rfl (fun _ => rfl) rfl ?_
        refine gxo_get (a := 7) rfl s0.1 rfl rfl kL rfl ?_
        refine ex_go (S := (57, [(0, gx_r 7), (1, .inl e)], [gx_r 7, gx_r LC], t0, n, 0)) rfl (fun _ => rfl) rfl ?_
        refine gxo_ref (a := 7) (c := 1) rfl s0.1 rfl rfl rfl rfl rfl ?_
        obtain ⟨_, r148, v148, rfl, q148⟩ := pc_value (d + l + 7) n (s0) hT (by first | decide | omega) 
        refine gx_callo (a := 1) rfl rfl s0.1 rfl rfl rfl r148 rfl ?_
        show en_ex _ _ _ _ (63, [(0, gx_r 7), (1, .inl e)], [.inl v148, gx_r LC], t0, n, 0) _
        obtain ⟨⟨hLa, hLb⟩, ⟨gL149, hgL149, hkL149⟩, hadd149⟩ := id hL
        obtain ⟨t149, r149, g149, e149, z149, kz149, hz149, cz149⟩ := hadd149 (d + l + 7) n v148 t0 s0.1 (by first | decide | omega)
        refine gx_callo (a := LC) rfl rfl s0.1 hgL149 hkL149 rfl r149 rfl ?_
        have k50 : ai_hv t149 7 2 = some (gx_r LC) := (e149 7 2 (by first | decide | omega)).trans kL
        have k51 : ai_hv t149 7 3 = some (gx_w lw) := (e149 7 3 (by first | decide | omega)).trans kW
        have s149 : cS t149 a f := ⟨g149, (e149 1 8 (by first | decide | omega)).trans s0.2.1, (e149 1 1 (by first | decide | omega)).trans s0.2.2.1, s0.2.2.2⟩
        show en_ex _ _ _ _ (66, [(0, gx_r 7), (1, .inl e)], [], t149, n, 0) _
        refine ex_go (S := (67, [(0, gx_r 7), (1, .inl e)], [gx_r 7], t149, n, 0)) rfl (fun _ => rfl) rfl ?_
        refine gxo_ref (a := 7) (c := 1) rfl s149.1 rfl rfl rfl rfl rfl ?_
        have hT53 := cT_keep (t' := t149) hT (fun c i h => e149 c i (by first | decide | omega))
        obtain ⟨_, r152, t152, a152, f152, rfl, s152, e152, q152⟩ := pc_goOn (d + l + 7) n (s149) hT53 (by first | decide | omega) 
        have b152 := s152.2.2.2
        refine gx_callo (a := 1) rfl rfl s149.1 rfl rfl rfl r152 rfl ?_
        have k54 : ai_hv t152 7 2 = some (gx_r LC) := (e152 7 2 (by first | decide | omega)).trans k50
        have k55 : ai_hv t152 7 3 = some (gx_w lw) := (e152 7 3 (by first | decide | omega)).trans k51
        show en_ex _ _ _ _ (73, [(0, gx_r 7), (1, .inl e)], [], t152, n, 0) _
        refine ex_go (S := (171, [(0, gx_r 7), (1, .inl e)], [], t152, n, 0)) rfl (fun _ => rfl) rfl ?_
        refine ex_ret (r := (none, t152, n, 0)) rfl (fun _ => rfl) ?_
        have hw9 : ¬ sp_wd S m N a 35 := fun z => by have := (sp_wd_kt z).1; omega
        have hs9 : ¬ sp_sg S m N a 40 := fun z => by have := (sp_sg_kt.mp z).1; omega
        refine ⟨_, rfl, t152, a152, f152, rfl, s152, (fun c i h => (e152 c i (by first | decide | omega)).trans (e149 c i (by first | decide | omega))), Ev_at (Ev_to (Ev_one he5 hw9 hs9 hb9) (by show a + 1 = a152; omega) (by show 0 = f152; omega)) rfl (by show 0 = f; omega), by omega, by omega, by omega, fun s9 hs9b hsa hf9 => ?_⟩
        have hs9k := hs9
        have hs9 := hs9b
        have htk9 : v148 = sp_tk S m N a := by rw [tk_num hkt]; exact (q148.2 hkt).1
        have hz9 : z149 = s9 := Sum.inl.inj (Option.some.inj (kz149.symm.trans hs9))
        have m3 := cz149 (by first | decide | omega)
        rw [hz9, htk9] at m3
        refine ⟨[sp_tk S m N a], Ec_at (Ec_one hw9 hs9k) rfl (by show 0 = f; omega), by show 1 + a ≤ _; omega, ?_⟩
        exact cLs_then m3 (e152 LC 2 (by first | decide | omega)) (fun j => e152 (LC + 2) j (by first | decide | omega))
    · refine gx_1f (c := .eq) rfl (by first | decide | omega) hc5 rfl ?_
      refine ex_ret (r := (none, t0, n, 0)) rfl (fun _ => rfl) ?_
      exact ⟨_, rfl, t0, a, f, rfl, s0, (fun _ _ _ => rfl), Ev_no (by first | decide | omega), by omega, by omega, by omega, fun s9 _ _ z => absurd z (by first | decide | omega)⟩
  · refine gx_1f (c := .ne) rfl (by first | decide | omega) hc4 rfl ?_
    refine ex_go (S := (8, [(0, gx_r 7), (1, .inl e)], [gx_r 7], t0, n, 0)) rfl (fun _ => rfl) rfl ?_
    refine gxo_ref (a := 7) (c := 1) rfl s0.1 rfl rfl rfl rfl rfl ?_
    refine ex_go (S := (12, [(0, gx_r 7), (1, .inl e)], [.inl 1, gx_r 1], t0, n, 0)) rfl (fun _ => rfl) rfl ?_
    have hnb9 : ¬ sp_bp S m N fh a := fun z => absurd (q3.2.mpr z) (by first | decide | omega)
    obtain ⟨_, r156, t156, a156, f156, rfl, s156, e156, q156⟩ := pc_wrong (d + l + 7) n (s0) hT (by first | decide | omega) (w := 1) (by first | decide | omega)
    have b156 := s156.2.2.2
    refine gx_callo (a := 1) rfl rfl s0.1 rfl rfl rfl r156 rfl ?_
    have k57 : ai_hv t156 7 2 = some (gx_r LC) := (e156 7 2 (by first | decide | omega)).trans kL
    have k58 : ai_hv t156 7 3 = some (gx_w lw) := (e156 7 3 (by first | decide | omega)).trans kW
    show en_ex _ _ _ _ (15, [(0, gx_r 7), (1, .inl e)], [], t156, n, 0) _
    refine ex_go (S := (31, [(0, gx_r 7), (1, .inl e)], [], t156, n, 0)) rfl (fun _ => rfl) rfl ?_
    refine ex_go (S := (32, [(0, gx_r 7), (1, .inl e)], [gx_r 7], t156, n, 0)) rfl (fun _ => rfl) rfl ?_
    refine gxo_ref (a := 7) (c := 1) rfl s156.1 rfl rfl rfl rfl rfl ?_
    refine gxo_get (a := 1) rfl s156.1 rfl rfl s156.2.2.1 rfl ?_
    refine gx_1f (c := .eq) rfl (by first | decide | omega) (show ¬ (f156 = 0) from by omega) rfl ?_
    refine ex_ret (r := (none, t156, n, 0)) rfl (fun _ => rfl) ?_
    refine ⟨_, rfl, t156, a156, f156, rfl, s156, (fun c i h => e156 c i (by first | decide | omega)), ?_, by omega, by omega, by omega, fun s9 _ _ z => absurd z (by first | decide | omega)⟩
    by_cases h0 : f = 0
    · exact Ev_at (Ev_to (Ev_p1 hnb9) (by show a = a156; omega) (by show 1 + 16 * sp_st S m a = f156; omega)) rfl (by show 0 = f; omega)
    · exact Ev_to (Ev_no h0) (by show a = a156; omega) (by show f = f156; omega)
theorem pc_laws (hL : cLaw LC) (hF : cFh lw fh) : ∀ j e, e + j = 5 → (∀ d, cRP S m N fh lw LC (d + 6 * j + 3) e) ∧ (∀ d, cRL S m N fh lw LC (d + 6 * j + 8) 0 e) := by
  intro j
  induction j with
  | zero =>
    intro e he
    have e5 : e = 5 := by omega
    subst e5
    have h1 : ∀ d, cRP S m N fh lw LC (d + 0 + 3) 5 := fun d => pc_readPart5 hL hF d
    exact ⟨h1, pc_level0 (l := 0) hL (pc_level1 (l := 0) hL (pc_level2 (l := 0) hL (pc_level3 (l := 0) hL (pc_level4 (l := 0) hL h1))))⟩
  | succ j ih =>
    intro e he
    obtain ⟨hP, hR⟩ := ih (e + 1) (by first | decide | omega)
    have h1 : ∀ d, cRP S m N fh lw LC (d + 6 * (j + 1) + 3) e := fun d => pc_readPart (l := 6 * j) hL hF hP hR (by first | decide | omega) d
    exact ⟨h1, pc_level0 (l := 6 * (j + 1)) hL (pc_level1 (l := 6 * (j + 1)) hL (pc_level2 (l := 6 * (j + 1)) hL (pc_level3 (l := 6 * (j + 1)) hL (pc_level4 (l := 6 * (j + 1)) hL h1))))⟩
theorem pc_law0 (hL : cLaw LC) (hF : cFh lw fh) (d : Nat) : cRL S m N fh lw LC (d + 38) 0 0 := (pc_laws hL hF 5 0 rfl).2 d
end SPW
