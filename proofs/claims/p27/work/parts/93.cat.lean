section ENW
noncomputable def tx_wsO (q : en_M) (hh : List (Nat × Nat × Nat × Nat)) : List Cond := Cond.codeWith q.1 q.2.1 q.2.2.1 q.2.2.2.1 hh :: en_gt
/-- a method of the law's class that calls a method that throws, and answers 1 where it threw -/
theorem tx_lmet {l : Launch} {ba : Nat} {ex : Nat → Nat} {cA : Nat → ClassId} {D : va_G} {is sa mi pcI pcH pcE nH iI cH a fuel : Nat} {tx : String} {q qO : en_M} (hi : en_nth en_inf mi = some q) (hk1 : q.2.2.2.2.2.1 = 1) {as0 as rest : List en_V} {t t1 : en_H} {n : Nat} {ls : en_L} {qr : Nat × List en_V}
    {code : Nat → Option en_I} (hcode : ∀ pc e, code pc = some e → en_ok qO pc e = true) {h1 h2 : Nat} (hy : plainName qO.1.cls = true) (hcn : qO.1.cls = en_cn qO.2.2.2.2.2.2) (hcw : Cond.codeWith qO.1 qO.2.1 qO.2.2.1 qO.2.2.2.1 [(h1, h2, pcH, cH)] ∈ en_gt) (hgw : Cond.classLink (en_cn qO.2.2.2.2.2.2) cH tx_N ∈ en_gt)
    (hcov : h1 ≤ pcI ∧ pcI < h2) (hcH : cH ≠ 0)
    (hM : vx_Met l q.1 (en_ws q) (en_rm 61 1 6) (tx_Pc ba ex cA D is tx sa (.inr (.inr (.inl (some a))) :: as) t n) (fun _ _ _ _ => False) (tx_XC ba ex cA D t1 n) 1 6 (fun x => ba ≤ x))
    (hsum : en_sum as0 ≤ qO.2.2.1) {st : List en_V}
    (hrun : en_run en_df none (en_u 61) code (fun pc => Nat.beq pc pcI) fuel 0 (en_args as0 0) [] t n 0 = some (.inr (pcI, ls, st, t, n, 0)))
    (htk : en_take (q.2.2.2.2.1 + 1) st [] = some (.inr (.inr (.inl (some a))) :: as, rest)) (hsr : en_sum rest ≤ 8) (hg : en_get t a = some (.inr qr)) (hqr : qr.1 = q.2.2.2.2.2.2)
    (hd : decode qO.2.1 pcI = .ok (.invokevirtual iI, 3)) (hlk : Cond.methodLink (en_cn qO.2.2.2.2.2.2) iI q.1 ∈ en_gt)
    (hdH : (decode qO.2.1 pcH = .ok (.astore nH, 2) ∧ pcE = pcH + 2) ∨ (∃ k : Fin 4, (k : Nat) = nH ∧ decode qO.2.1 pcH = .ok (.astore_n k, 1) ∧ pcE = pcH + 1)) (hnH : nH < qO.2.2.1)
    (hrunE : en_run en_df none (en_u 61) code (fun _ => false) 5 pcE [] [] t1 (n + 1) 6 = some (.inl (some (.inl 1), t1, n + 1, 6))) :
    Met l qO.1 (tx_wsO qO [(h1, h2, pcH, cH)]) (en_rm 62 1 6) (tx_Pc ba ex cA D is tx sa as0 t n) (en_Qc ba ex cA D (some (.inl 1), t1, n + 1, 6)) 1 6 (fun x => ba ≤ x) := by
  have hq := en_mi hi
  have hf := en_u_hf l ba ex cA D 61
  refine va_MetW (hh := [(h1, h2, pcH, cH)]) (cc := qO.2.1) (maxL := qO.2.2.1) (ret := qO.2.2.2.1) hy rfl ?_
  intro p e s m args below meth c s₁ B hml hv
  obtain ⟨⟨⟨vs, rfl, hvs⟩, hP, hK⟩, hX⟩ := hv
  have hts : ∀ w ∈ en_gt, w.before vs.toArray s = true := fun w hw => atoms_spec (ws := tx_wsO qO [(h1, h2, pcH, cH)]) B.pre w (List.mem_cons_of_mem _ hw)
  have htab : c.exceptionTable.toList = [⟨h1, h2, pcH, cH⟩] := vx_table (x := qO.1) B (hts _ hcw)
  have hown : s.vm.findClass qO.1.cls = some m.cls := findClass_of_methodNamed B.named
  rw [hcn] at hown
  rw [lg_entry_eq]
  have hle : (lg_sl vs).length ≤ qO.2.2.1 := by rw [en_args_len hvs, ← en_sum_eq]; exact hsum
  have hl0 := lv_entry vs hle
  have hn1 : n + 1 - n = 1 := by omega
  have Cx : en_Cx p (headSpec (tx_wsO qO [(h1, h2, pcH, cH)]) (en_rm 62 1 6)).room s m vs.toArray meth c ba ex cA D qO.2.2.1 n (n + 1) 6 qO 61 := ⟨B.exec, B.bytes, hml, rfl, hown, hts, hK, B.notSynchronized, B.returns, (name_of_methodNamed B.named B.method).1, Nat.le_refl _, Nat.le_refl _, by rw [hn1]; exact Nat.le_refl _, Nat.le_refl _⟩
  have TE := en_sound (l := l) (e := e) (below := below) (Q := MQ below (en_Qc ba ex cA D (some (.inl 1), t1, n + 1, 6)) vs.toArray s (n + 1 - n) 6 (fun x => ba ≤ x)) (oc := none) (stop := fun _ => false) Cx (fun L h => by cases h) hf hcode 5 pcE [] [] t1 (n + 1) 6 _ (Nat.le_succ n) hrunE (fun r' hr => by cases hr; exact ⟨rfl, rfl, rfl⟩) (fun S hS => by cases hS)
  have TX : en_T p l e (headSpec (tx_wsO qO [(h1, h2, pcH, cH)]) (en_rm 62 1 6)).room s m vs.toArray below meth c (MQ below (en_Qc ba ex cA D (some (.inl 1), t1, n + 1, 6)) vs.toArray s (n + 1 - n) 6 (fun x => ba ≤ x)) ba ex cA D qO.2.2.1 n (n + 1) 6 (pcI, ls, st, t, n, 0) := by
    refine ⟨Nat.le_succ n, Nat.zero_le 6, fun H locs la vs9 hl' hv' hP' hS => ?_⟩
    obtain ⟨lst, g1, g2, g3⟩ := en_take_ok _ htk
    rw [List.append_nil] at g2
    have hv' : en_rvs ba ex st vs9 := hv'
    rw [g1] at hv'
    obtain ⟨v1, v2, rfl, k1, k2⟩ := en_rvs_split hv'
    have ga : en_rvs ba ex (.inr (.inr (.inl (some a))) :: as) v1.reverse := by rw [g2]; exact en_rvs_rev k1
    have hlen : v1.reverse.length = q.2.2.2.2.1 + 1 := by rw [List.length_reverse, en_rvs_len k1]; exact g3
    obtain ⟨vl, hl1, hl2⟩ := hl'
    have hroom : (v2.map fun v => v.category).sum ≤ 8 := by rw [en_rvs_cat k2, ← en_sum_eq]; exact hsr
    have hrr : v1 = v1.reverse.reverse := (List.reverse_reverse v1).symm
    obtain ⟨w, av2, hav, j1, j2⟩ := en_rvs_cons ga
    have j1 : w = .ref (ba + a) := j1
    subst j1
    rw [hav] at hlen hrr
    obtain ⟨hin, hse, rc, hrc, hrn⟩ := hq.2.2.2.2.2.2.2.1 hk1
    obtain ⟨fs, r', m1, m2, m3⟩ := hP'.obj hg (by rw [hqr]; exact en_cl_lt hrc)
    rw [hqr] at m2 m3
    cases hrc.symm.trans m2
    obtain ⟨cell, q1, q2, q3, -⟩ := m3
    have hp : PreV s H q.1.cls (ba + a) (tx_Pc ba ex cA D is tx sa (.inr (.inr (.inl (some a))) :: as) t n) av2 := ⟨tx_Pc_blind, ⟨cell, q1, by rw [q3]; rfl, by rw [← hrn, q2]; exact (hK.1.1 _ _ hrc).2.1⟩, fun U hU hW => ⟨⟨⟨_, rfl, rfl, j2⟩, by rw [hU]; exact hP', hK.at hW (by rw [hU]; exact hS)⟩, hX.at hW (by rw [hU]; exact hS)⟩⟩
    have hR : (en_rm 61 1 6).frames + 1 ≤ (headSpec (tx_wsO qO [(h1, h2, pcH, cH)]) (en_rm 62 1 6)).room.frames ∧ 8 + (q.2.2.1 + 11) + (en_rm 61 1 6).locals ≤ (headSpec (tx_wsO qO [(h1, h2, pcH, cH)]) (en_rm 62 1 6)).room.locals := by
      have := hq.2.2.2.2.2.1
      exact ⟨Nat.le_refl _, by show 8 + (q.2.2.1 + 11) + 64 * 61 ≤ 64 * 62; omega⟩
    have run := vx_runV (p := p) (l := l) (e := e) (below := below) (meth := meth) (locs := locs) (cells := 0) (slots := 0) (g := F0 m pcI la (v1 ++ v2)) (rest := v2) ⟨B.exec, B.bytes, hml, hown, hts⟩ hM ⟨callB_of q.2.2.2.2.1 hts (en_ws_good hq) rfl rfl rfl (hts _ hq.2.2.2.2.1) (hts _ hlk) hq.2.2.2.1 hR, hts _ hin, hts _ hse⟩ hp rfl (by simpa using hlen) hl1.1 (by rw [hrr]; simp) (lv_room hroom) hd ⟨Nat.le_refl _, Nat.le_refl _⟩
    show W p l e _ s m vs.toArray below meth c H locs (n - n) 0 _ _
    rw [Nat.sub_self]
    intro T hT X
    rcases run T hT X with ⟨v, st₀, t9, T', L, h0, X', hL, e1, e2, hFa, sts⟩ | ⟨q9, st₀, t9, T', L, E, ce, h0, X', hL, e1, e2, ⟨rfl, hP9, hF9⟩, hce, hcv, hcl, sts⟩
    · exact hFa.elim
    · obtain ⟨n1, n2, n3⟩ := vx_keep h0 e1 hS (fun z _ h => h) (fun z h => h) hL hF9
      have kk : W p l e (headSpec (tx_wsO qO [(h1, h2, pcH, cH)]) (en_rm 62 1 6)).room s m vs.toArray below meth c T'.heap (locs ++ L) (0 + 1) (0 + 6) (MQ below (en_Qc ba ex cA D (some (.inl 1), t1, n + 1, 6)) vs.toArray s (n + 1 - n) 6 (fun x => ba ≤ x)) (F0 m pcH la [.ref q9]) := by
        have fin : ∀ ls' : Array Slot, ls'.size = qO.2.2.1 → lv_wf ls' → W p l e (headSpec (tx_wsO qO [(h1, h2, pcH, cH)]) (en_rm 62 1 6)).room s m vs.toArray below meth c T'.heap (locs ++ L) (0 + 1) (0 + 6) (MQ below (en_Qc ba ex cA D (some (.inl 1), t1, n + 1, 6)) vs.toArray s (n + 1 - n) 6 (fun x => ba ≤ x)) (F0 m pcE ls' []) := by
          intro ls' z1 z2
          have K := TE.2.2 T'.heap (locs ++ L) ls' [] ⟨[], ⟨z1, z2, fun z hz => by cases hz⟩, trivial⟩ trivial (by rw [e1]; exact hP9) n3
          dsimp only at K
          rw [hn1] at K ⊢
          exact K
        rcases hdH with ⟨hd9, e9⟩ | ⟨k, hk9, hd9, e9⟩
        · rw [e9] at fin
          exact lv_astore B.exec B.bytes hd9 hl1 hnH rfl (fun ls' z => fin ls' z.1 z.2.1)
        · rw [e9] at fin
          exact lv_astore_n B.exec B.bytes hd9 hk9 hl1 hnH rfl (fun ls' z => fin ls' z.1 z.2.1)
      have hcast : (Cond.castable tx_N tx_N).before vs.toArray s = true := va_Nw.use rfl (hX.2.2 _ List.mem_cons_self)
      obtain ⟨t2, a1, b1⟩ := vx_catch (rest := v2) (pc := pcI) hown [] ⟨h1, h2, pcH, cH⟩ [] htab (fun z hz => by cases hz) (by unfold covers; simp; exact hcov) hcH (hts _ hgw) hcast (by rw [e1]; exact hce) hcv hcl kk T' rfl X'
      exact ⟨t2, sts.trans a1, b1⟩
  have T0 := en_sound (l := l) (e := e) (below := below) (oc := none) (stop := fun pc => Nat.beq pc pcI) Cx (fun L h => by cases h) hf hcode fuel 0 _ _ _ _ _ _ (Nat.le_refl n) hrun (fun r' hr => by cases hr) (fun S hS => by cases hS; exact TX)
  have K := T0.2.2 s.heap [] _ [] ⟨_, hl0, en_args_ok 0 hvs⟩ trivial hP va_S.rf
  dsimp only at K
  rw [Nat.sub_self, hn1] at K
  exact K
end ENW
