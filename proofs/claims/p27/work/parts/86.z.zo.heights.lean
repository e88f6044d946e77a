section SEV
/-! ### a law's codes as a stack machine: 0 a part, 1 not, 2 an operator between two -/
noncomputable def vk (z : Nat) : Nat := if z = 4294967295 then 1 else if 4294967288 ≤ z ∧ z < 4294967295 then 2 else 0
theorem vk_0 {z : Nat} (h : z < 4294967288) : vk z = 0 := by
  unfold vk
  rw [if_neg (by first | decide | omega), if_neg (by first | decide | omega)]
theorem vk_2 {z : Nat} (h1 : 4294967288 ≤ z) (h2 : z < 4294967295) : vk z = 2 := by
  unfold vk
  rw [if_neg (by first | decide | omega), if_pos ⟨h1, h2⟩]
/-- how high it stands behind them, no higher than B -/
noncomputable def hrun (B : Nat) : List Nat → Nat → Option Nat
  | [], h => some h
  | z :: L, h => if vk z = 0 then (if h < B then hrun B L (h + 1) else none) else if vk z = 1 then (if 1 ≤ h then hrun B L h else none) else (if 2 ≤ h then hrun B L (h - 1) else none)
theorem hrun_app {B : Nat} : ∀ {L1 L2 : List Nat} {h h1 : Nat}, hrun B L1 h = some h1 → hrun B (L1 ++ L2) h = hrun B L2 h1
  | [], L2, h, h1, e => by
    have e : some h = some h1 := e
    rw [Option.some.inj e]
    rfl
  | z :: L, L2, h, h1, e => by
    have e : (if vk z = 0 then (if h < B then hrun B L (h + 1) else none) else if vk z = 1 then (if 1 ≤ h then hrun B L h else none) else (if 2 ≤ h then hrun B L (h - 1) else none)) = some h1 := e
    show (if vk z = 0 then (if h < B then hrun B (L ++ L2) (h + 1) else none) else if vk z = 1 then (if 1 ≤ h then hrun B (L ++ L2) h else none) else (if 2 ≤ h then hrun B (L ++ L2) (h - 1) else none)) = hrun B L2 h1
    by_cases c0 : vk z = 0
    · rw [if_pos c0] at e ⊢
      by_cases c : h < B
      · rw [if_pos c] at e ⊢
        exact hrun_app e
      · rw [if_neg c] at e
        cases e
    · rw [if_neg c0] at e ⊢
      by_cases c1 : vk z = 1
      · rw [if_pos c1] at e ⊢
        by_cases c : 1 ≤ h
        · rw [if_pos c] at e ⊢
          exact hrun_app e
        · rw [if_neg c] at e
          cases e
      · rw [if_neg c1] at e ⊢
        by_cases c : 2 ≤ h
        · rw [if_pos c] at e ⊢
          exact hrun_app e
        · rw [if_neg c] at e
          cases e
/-- one value more, with H places above; what follows a value -/
noncomputable def hg (H : Nat) (L : List Nat) : Prop := ∀ B h, h + H ≤ B → hrun B L h = some (h + 1)
noncomputable def ht (H : Nat) (L : List Nat) : Prop := ∀ B h, 1 ≤ h → h + H ≤ B → hrun B L h = some h
theorem hg_mono {H H' : Nat} {L : List Nat} (h : hg H L) (e : H ≤ H') : hg H' L := fun B k hk => h B k (by first | decide | omega)
theorem hg_one {H z : Nat} (h : vk z = 0) (hH : 1 ≤ H) : hg H [z] := fun B k hk => by
  show (if vk z = 0 then (if k < B then hrun B [] (k + 1) else none) else _) = _
  rw [if_pos h, if_pos (by first | decide | omega)]
  rfl
theorem hg_app {H1 H2 H : Nat} {L1 L2 : List Nat} (h1 : hg H1 L1) (h2 : ht H2 L2) (e1 : H1 ≤ H) (e2 : H2 + 1 ≤ H) : hg H (L1 ++ L2) := fun B k hk => by
  rw [hrun_app (h1 B k (by first | decide | omega))]
  exact h2 B (k + 1) (by first | decide | omega) (by first | decide | omega)
theorem hg_not {H : Nat} {L : List Nat} (h : hg H L) : hg H (L ++ [4294967295]) := fun B k hk => by
  rw [hrun_app (h B k hk)]
  show (if vk 4294967295 = 0 then _ else if vk 4294967295 = 1 then (if 1 ≤ k + 1 then hrun B [] (k + 1) else none) else _) = _
  rw [if_neg (by decide), if_pos (by decide), if_pos (by first | decide | omega)]
  rfl
theorem ht_nil {H : Nat} : ht H [] := fun B k _ _ => rfl
theorem ht_op {H z : Nat} {L : List Nat} (h : hg H L) (hz : vk z = 2) : ht H (L ++ [z]) := fun B k h1 hk => by
  rw [hrun_app (h B k hk)]
  show (if vk z = 0 then _ else if vk z = 1 then _ else (if 2 ≤ k + 1 then hrun B [] (k + 1 - 1) else none)) = _
  rw [if_neg (by first | decide | omega), if_neg (by first | decide | omega), if_pos (by first | decide | omega)]
  rfl
theorem ht_more {H z : Nat} {L1 L2 : List Nat} (h : hg H L1) (hz : vk z = 2) (h2 : ht H L2) : ht H (L1 ++ ([z] ++ L2)) := fun B k h1 hk => by
  rw [← List.append_assoc, hrun_app (ht_op h hz B k h1 hk)]
  exact h2 B k h1 hk
variable {S : Nat → Nat} {m N fh : Nat}
theorem sp_nv_lt {a : Nat} (hk : sp_kt S m N a = 2) : sp_nv S m a < 10000 := by
  unfold sp_kt at hk
  by_cases c : a < N
  · rw [if_pos c] at hk
    obtain ⟨e0, e1, e2⟩ := sp_ty_2 hk
    exact sp_hv10 e2 (fun j hj => sp_rn_all (m := m) (k := sp_st S m a) (by first | decide | omega) (by first | decide | omega))
  · rw [if_neg c] at hk; omega
theorem sp_tk_vk {a : Nat} : vk (sp_tk S m N a) = 0 := by
  unfold sp_tk
  by_cases c : sp_kt S m N a = 2
  · rw [cif_t c]
    have := sp_nv_lt c
    exact vk_0 (by first | decide | omega)
  · rw [cif_f c]
    by_cases c1 : sp_wd S m N a 38
    · rw [cif_t c1]; rfl
    · rw [cif_f c1]
      by_cases c2 : sp_wd S m N a 40
      · rw [cif_t c2]; rfl
      · rw [cif_f c2]; rfl
theorem sp_oc_vk {a : Nat} : vk (sp_oc S m N a) = 2 := by
  unfold sp_oc
  by_cases c1 : sp_wd S m N a 36
  · rw [cif_t c1]; rfl
  · rw [cif_f c1]
    by_cases c2 : sp_wd S m N a 37
    · rw [cif_t c2]; rfl
    · rw [cif_f c2]
      by_cases c3 : sp_sg S m N a 60
      · rw [cif_t c3]; rfl
      · rw [cif_f c3]
        by_cases c4 : sp_sg S m N a 61
        · rw [cif_t c4]; rfl
        · rw [cif_f c4]
          by_cases c5 : sp_sg S m N a 43
          · rw [cif_t c5]; rfl
          · rw [cif_f c5]
            by_cases c6 : sp_sg S m N a 45
            · rw [cif_t c6]; rfl
            · rw [cif_f c6]; rfl
theorem sp_op_at {l a : Nat} (h : sp_op S m N l a) : a < N := by
  rcases h with ⟨_, h | h⟩ | ⟨_, h | h⟩ | ⟨_, h | h⟩ | ⟨_, h⟩ <;> exact h.1
theorem sp_bp_at {a : Nat} (h : sp_bp S m N fh a) : a < N := by
  rcases h with h | ⟨j, _, h, _⟩ | h | h
  · exact sp_kt_lt (S := S) (m := m) (N := N) (a := a) (by first | decide | omega)
  · exact h.1
  · exact h.1
  · exact h.1
/-- the codes that a law of these facts may have -/
noncomputable def vo (fh z : Nat) : Prop := z < 2147483648 ∨ (vk z ≠ 0 ∧ z < 4294967296) ∨ z = 4294967286 ∨ ((z = 4294967287 ∨ z = 4294967285) ∧ fh = 7)
theorem vk_lt {z : Nat} (h : vk z ≠ 0) : z < 4294967296 := by
  by_cases c : z = 4294967295
  · omega
  · unfold vk at h
    rw [if_neg c] at h
    by_cases c2 : 4294967288 ≤ z ∧ z < 4294967295
    · omega
    · rw [if_neg c2] at h; exact absurd rfl h
theorem vo_oc {a : Nat} : vo fh (sp_oc S m N a) := by
  have h : vk (sp_oc S m N a) ≠ 0 := by rw [sp_oc_vk]; decide
  exact Or.inr (Or.inl ⟨h, vk_lt h⟩)
theorem vo_not : vo fh 4294967295 := Or.inr (Or.inl ⟨by decide, by decide⟩)
theorem vo_tk {a : Nat} (hfh : fh = 7 ∨ fh = 8 ∨ fh = 2) (hw : ¬ sp_wd S m N a 35) (hs : ¬ sp_sg S m N a 40) (hb : sp_bp S m N fh a) : vo fh (sp_tk S m N a) := by
  rcases hb with h | ⟨j, j4, h, h1⟩ | h | h
  · rw [tk_num h]
    have := sp_nv_lt h
    exact Or.inl (by first | decide | omega)
  · rcases (show j = 0 ∨ j = 1 ∨ j = 2 ∨ j = 3 by omega) with rfl | rfl | rfl | rfl
    · rw [tk_38 h]
      refine Or.inr (Or.inr (Or.inr ⟨Or.inl rfl, ?_⟩))
      rcases hfh with rfl | rfl | rfl
      · rfl
      · exact absurd h1 (by decide)
      · exact absurd h1 (by decide)
    · rw [tk_39 (Or.inl rfl) h]
      exact Or.inr (Or.inr (Or.inl rfl))
    · rw [tk_40 h]
      refine Or.inr (Or.inr (Or.inr ⟨Or.inr rfl, ?_⟩))
      rcases hfh with rfl | rfl | rfl
      · rfl
      · exact absurd h1 (by decide)
      · exact absurd h1 (by decide)
    · rw [tk_39 (Or.inr rfl) h]
      exact Or.inr (Or.inr (Or.inl rfl))
  · exact absurd h hs
  · exact absurd h hw
theorem vo_app {L1 L2 : List Nat} (h1 : ∀ z, z ∈ L1 → vo fh z) (h2 : ∀ z, z ∈ L2 → vo fh z) : ∀ z, z ∈ L1 ++ L2 → vo fh z := fun z hz => (List.mem_append.mp hz).elim (h1 z) (h2 z)
theorem vo_one {x : Nat} (h : vo fh x) : ∀ z, z ∈ [x] → vo fh z := fun z hz => by
  rw [List.mem_singleton.mp hz]; exact h
theorem vo_nil : ∀ z, z ∈ ([] : List Nat) → vo fh z := fun z hz => absurd hz List.not_mem_nil
noncomputable def Hh (y d : Nat) : Nat := 4 * (4 - d) + 5 - y
noncomputable def evP (S : Nat → Nat) (m N fh a y d : Nat) : Prop := ∃ q, Ev S m N fh y d (a, 0) q ∧ q.1 ≤ N ∧ (q.2 = 0 → (y ≤ 4 → a < q.1 ∧ d ≤ 4) ∧ a ≤ q.1 ∧ ∃ L, Ec S m N fh y d (a, 0) L ∧ (∀ z, z ∈ L → vo fh z) ∧ (y ≤ 4 → hg (Hh y d) L) ∧ (5 ≤ y → d ≤ 4 → ht (Hh (y - 4) d) L))
theorem fx_ne {w a : Nat} (hw : w = 1 ∨ w = 5) : ¬ (fx S m w a).2 = 0 := by
  unfold fx
  show ¬ (w + 16 * sp_st S m a = 0)
  omega
theorem ec_all (hfh : fh = 7 ∨ fh = 8 ∨ fh = 2) : ∀ n a y d, a ≤ N → y ≤ 8 → d ≤ 5 → 10 * (N - a) + (if y < 5 then 4 - y else 5) ≤ n → evP S m N fh a y d := by
  intro n
  induction n using Nat.strongRecOn with
  | ind n ih =>
  intro a y d ha hy hd hn
  have IH : ∀ a' y', a' ≤ N → y' ≤ 8 → ∀ d', d' ≤ 5 → 10 * (N - a') + (if y' < 5 then 4 - y' else 5) < n → evP S m N fh a' y' d' := fun a' y' h1 h2 d' h3 h4 => ih _ h4 a' y' d' h1 h2 h3 (Nat.le_refl _)
  by_cases y4 : y < 4
  · rw [if_pos (by first | decide | omega)] at hn
    obtain ⟨q, q1, q2, q3⟩ := IH a (y + 1) ha (by first | decide | omega) d hd (by rw [if_pos (by first | decide | omega)]; omega)
    by_cases hf : q.2 = 0
    · obtain ⟨hq1, hq2, L1, c1, o1, l1, -⟩ := q3 hf
      obtain ⟨h1, h2⟩ := hq1 (by first | decide | omega)
      have eq : q = (q.1, 0) := Prod.ext rfl hf
      obtain ⟨r, r1, r2, r3⟩ := IH q.1 (y + 5) q2 (by first | decide | omega) d hd (by rw [if_neg (by first | decide | omega)]; omega)
      have r1' : Ev S m N fh (y + 5) d q r := by rw [eq]; exact r1
      refine ⟨r, Ev_lv y4 q1 r1', r2, fun hr => ?_⟩
      obtain ⟨-, g2, L2, c2, o2, -, l2⟩ := r3 hr
      have c2' : Ec S m N fh (y + 5) d q L2 := by rw [eq]; exact c2
      have l2' := l2 (by first | decide | omega) h2
      rw [show y + 5 - 4 = y + 1 by omega] at l2'
      exact ⟨fun _ => ⟨by omega, h2⟩, by omega, L1 ++ L2, Ec_lv y4 q1 c1 c2', vo_app o1 o2, fun _ => hg_app (l1 (by first | decide | omega)) l2' (by unfold Hh; omega) (by unfold Hh; omega), fun z => absurd z (by first | decide | omega)⟩
    · exact ⟨q, Ev_lv y4 q1 (Ev_no (a := q.1) (f := q.2) hf), q2, fun z => absurd z hf⟩
  · by_cases y5 : y = 4
    · subst y5
      rw [if_pos (by first | decide | omega)] at hn
      by_cases hb : sp_bp S m N fh a
      · by_cases d5 : d = 5
        · subst d5
          exact ⟨_, Ev_p5 hb, ha, fun z => absurd z (fx_ne (Or.inr rfl))⟩
        · have hlt := sp_bp_at hb
          by_cases hw : sp_wd S m N a 35
          · obtain ⟨q, q1, q2, q3⟩ := IH (a + 1) 4 hlt (by first | decide | omega) (d + 1) (by first | decide | omega) (by rw [if_pos (by first | decide | omega)]; omega)
            refine ⟨q, Ev_not d5 hw q1, q2, fun hf => ?_⟩
            obtain ⟨g1, g2, L, c, o, l, -⟩ := q3 hf
            obtain ⟨g3, g4⟩ := g1 (by first | decide | omega)
            exact ⟨fun _ => ⟨by omega, by omega⟩, by omega, L ++ [4294967295], Ec_not hw c, vo_app o (vo_one vo_not), fun _ => hg_not (hg_mono (l (by first | decide | omega)) (by unfold Hh; omega)), fun z => absurd z (by first | decide | omega)⟩
          · by_cases hs : sp_sg S m N a 40
            · obtain ⟨q, q1, q2, q3⟩ := IH (a + 1) 0 hlt (by first | decide | omega) (d + 1) (by first | decide | omega) (by rw [if_pos (by first | decide | omega)]; omega)
              have hE := Ev_in d5 hw hs q1
              by_cases hf : q.2 = 0
              · obtain ⟨g1, g2, L, c, o, l, -⟩ := q3 hf
                obtain ⟨g3, g4⟩ := g1 (by first | decide | omega)
                have eq : q = (q.1, 0) := Prod.ext rfl hf
                by_cases h41 : sp_sg S m N q.1 41
                · have e9 : fs S m N 41 q = (q.1 + 1, 0) := by rw [eq]; exact fs_yes h41
                  rw [e9] at hE
                  exact ⟨_, hE, h41.1, fun _ => ⟨fun _ => ⟨by show a < q.1 + 1; omega, by omega⟩, by show a ≤ q.1 + 1; omega, L, Ec_in hw hs c, o, fun _ => hg_mono (l (by first | decide | omega)) (by unfold Hh; omega), fun z => absurd z (by first | decide | omega)⟩⟩
                · have e9 : fs S m N 41 q = (q.1, 1 + 16 * sp_st S m q.1) := by rw [eq]; exact fs_not h41
                  rw [e9] at hE
                  exact ⟨_, hE, q2, fun z => absurd z (by show ¬ (1 + 16 * sp_st S m q.1 = 0); omega)⟩
              · have e9 : fs S m N 41 q = q := fs_no (a := q.1) (f := q.2) hf
                rw [e9] at hE
                exact ⟨_, hE, q2, fun z => absurd z hf⟩
            · exact ⟨(a + 1, 0), Ev_one d5 hw hs hb, hlt, fun _ => ⟨fun _ => ⟨Nat.lt_succ_self a, by omega⟩, Nat.le_succ a, [sp_tk S m N a], Ec_one hw hs, vo_one (vo_tk hfh hw hs hb), fun _ => hg_one sp_tk_vk (by unfold Hh; omega), fun z => absurd z (by first | decide | omega)⟩⟩
      · exact ⟨_, Ev_p1 hb, ha, fun z => absurd z (fx_ne (Or.inl rfl))⟩
    · rw [if_neg (by first | decide | omega)] at hn
      by_cases hop : sp_op S m N (y - 5) a
      · have hlt := sp_op_at hop
        obtain ⟨q, q1, q2, q3⟩ := IH (a + 1) (y - 4) hlt (by first | decide | omega) d hd (by rw [if_pos (by first | decide | omega)]; omega)
        by_cases y6 : y = 6
        · subst y6
          refine ⟨q, Ev_once hop q1, q2, fun hf => ?_⟩
          obtain ⟨g1, g2, L, c, o, l, -⟩ := q3 hf
          exact ⟨fun z => absurd z (by first | decide | omega), by omega, L ++ [sp_oc S m N a], Ec_once hop c, vo_app o (vo_one vo_oc), fun z => absurd z (by first | decide | omega), fun _ _ => ht_op (l (by first | decide | omega)) sp_oc_vk⟩
        · by_cases hf : q.2 = 0
          · obtain ⟨g1, g2, L1, c1, o1, l1, -⟩ := q3 hf
            have eq : q = (q.1, 0) := Prod.ext rfl hf
            obtain ⟨r, r1, r2, r3⟩ := IH q.1 y q2 hy d hd (by rw [if_neg (by first | decide | omega)]; omega)
            have r1' : Ev S m N fh y d q r := by rw [eq]; exact r1
            refine ⟨r, Ev_more (by first | decide | omega) y6 hop q1 r1', r2, fun hr => ?_⟩
            obtain ⟨-, g4, L2, c2, o2, -, l2⟩ := r3 hr
            have c2' : Ec S m N fh y d q L2 := by rw [eq]; exact c2
            exact ⟨fun z => absurd z (by first | decide | omega), by omega, L1 ++ ([sp_oc S m N a] ++ L2), Ec_more (by first | decide | omega) y6 hop q1 c1 c2', vo_app o1 (vo_app (vo_one vo_oc) o2), fun z => absurd z (by first | decide | omega), fun _ hd4 => ht_more (l1 (by first | decide | omega)) sp_oc_vk (l2 (by first | decide | omega) hd4)⟩
          · exact ⟨q, Ev_more (by first | decide | omega) y6 hop q1 (Ev_no (a := q.1) (f := q.2) hf), q2, fun z => absurd z hf⟩
      · exact ⟨(a, 0), Ev_stop (by first | decide | omega) hop, ha, fun _ => ⟨fun z => absurd z (by first | decide | omega), Nat.le_refl a, [], Ec_stop (by first | decide | omega) hop, vo_nil, fun z => absurd z (by first | decide | omega), fun _ _ => ht_nil⟩⟩
/-- a law that is told: no more than 21 values wait at once, one stays; its facts are its own -/
theorem ec_law (hfh : fh = 7 ∨ fh = 8 ∨ fh = 2) {a : Nat} {q : Nat × Nat} {L : List Nat} (ha : a ≤ N) (h : Ev S m N fh 0 0 (a, 0) q) (hq : q.2 = 0) (c : Ec S m N fh 0 0 (a, 0) L) : hrun 25 L 0 = some 1 ∧ ∀ z, z ∈ L → vo fh z := by
  obtain ⟨q', e1, e2, e3⟩ := ec_all (S := S) (m := m) (N := N) hfh (10 * (N - a) + 4) a 0 0 ha (by first | decide | omega) (by first | decide | omega) (by rw [if_pos (by first | decide | omega)]; omega)
  have e4 := Ev_det h e1
  subst e4
  obtain ⟨-, -, L', c', o', l', -⟩ := e3 hq
  have e5 := Ec_det c c'
  subst e5
  exact ⟨l' (by first | decide | omega) 25 0 (by decide), o'⟩
theorem sp_fh_3 {k : Nat} : sp_fh k = 7 ∨ sp_fh k = 8 ∨ sp_fh k = 2 := by
  unfold sp_fh
  by_cases c : k = 0
  · rw [if_pos c]; exact Or.inl rfl
  · rw [if_neg c]
    by_cases c1 : k = 1
    · rw [if_pos c1]; exact Or.inr (Or.inl rfl)
    · rw [if_neg c1]; exact Or.inr (Or.inr rfl)
/-- the laws that are told were read without a fault -/
noncomputable def WL (S : Nat → Nat) (m N : Nat) (σ : Nat → Nat → Nat) : Prop := ∀ k, k < 3 → σ 9 k = 1 → σ 24 k ≤ N ∧ ∃ q, Ev S m N (sp_fh k) 0 0 (σ 24 k, 0) q ∧ q.2 = 0
theorem fs_0 {g : Nat} {q : Nat × Nat} (h : (fs S m N g q).2 = 0) : q.2 = 0 := by
  by_cases c : q.2 = 0
  · exact c
  · have e : fs S m N g q = q := fs_no (a := q.1) (f := q.2) c
    rw [e] at h
    exact h
theorem WL_Ln {σ τ : Nat → Nat → Nat} {a : Nat} {q : Nat × Nat} (h : WL S m N σ) (ha : a < N) (hL : Ln S m N σ a q τ) (hq : q.2 = 0) : WL S m N τ := by
  rcases hL with ⟨w, e, e'⟩ | ⟨w, e, e'⟩ | ⟨w, e, e'⟩ | ⟨w, e, e'⟩ | ⟨w, e, e'⟩ | ⟨w, e, e'⟩ | ⟨w, e, e'⟩ | ⟨w, e, e'⟩ | ⟨k, hk, w, e, e'⟩ | ⟨w, e, e'⟩
  · rw [e']; exact fun l hl h9 => h l hl h9
  · rw [e']; exact fun l hl h9 => h l hl h9
  · rw [e']; exact fun l hl h9 => h l hl h9
  · rw [e']; exact fun l hl h9 => h l hl h9
  · rw [e']; exact fun l hl h9 => h l hl h9
  · rw [e']; exact fun l hl h9 => h l hl h9
  · rw [e']; exact fun l hl h9 => h l hl h9
  · rw [e']; exact fun l hl h9 => h l hl h9
  · rw [e']
    intro l hl h9
    by_cases e9 : l = k
    · subst e9
      rw [upk_24]
      refine ⟨ha, q, ?_, hq⟩
      by_cases c : σ 9 l ≠ 0
      · rw [fr_w c] at e
        have e8 := Ev_det e (Ev_no (by first | decide | omega))
        rw [e8] at hq
        exact absurd hq (by show ¬ (3 + 16 * sp_st S m a = 0); omega)
      · rw [fr_yes c] at e
        exact e
    · rw [upl_9 e9] at h9
      rw [upl_24 e9]
      exact h l hl h9
  · rw [e']; exact h
theorem Pt_0 {σ υ : Nat → Nat → Nat} {p : Nat × Nat} : ∀ {k : Nat}, Pt S m N k σ p υ → p.2 = 0
  | 0, h => h.elim
  | k + 1, h => by
    rcases h with ⟨h, -⟩ | ⟨h, -⟩
    · exact h
    · exact h
theorem WL_Pt : ∀ k σ p υ, WL S m N σ → Pt S m N k σ p υ → WL S m N υ
  | 0, _, _, _, _, h => h.elim
  | k + 1, σ, p, υ, hW, h => by
    rcases h with ⟨h1, h2, h3⟩ | ⟨h1, h2, q, τ, h3, h4⟩
    · rw [h3]; exact hW
    · exact WL_Pt k τ _ υ (WL_Ln hW h2 h3 (fs_0 (Pt_0 h4))) h4
end SEV
