section AI4
/-- a contract: the method, its arguments, what is known ahead of it, what it may write, its ends -/
noncomputable abbrev ai_C : Type := Nat × List ai_v × ai_O × ai_W × List (Option ai_v × ai_O)
noncomputable abbrev ai_N : Type := (List ai_S) ⊕ (Option ai_v × ai_O)
noncomputable abbrev ai_D : Type := ai_G → (Nat → List ai_C) → ai_W → Nat → Nat × Nat × Nat → ai_L → List ai_v → ai_O → Option ai_N
noncomputable def ai_nx (pc : Nat) (ls : ai_L) (st : List ai_v) (O : ai_O) : Option ai_N := some (.inl [(pc, ls, st, O)])
noncomputable def ai_ci (n nx : Nat) (ls : ai_L) (st : List ai_v) (O : ai_O) : Option ai_N := bif Nat.blt n 4294967296 then ai_nx nx ls (.inl (ai_off n, ai_off n, none) :: st) O else none
noncomputable def ai_load (d i nx : Nat) (ls : ai_L) (st : List ai_v) (O : ai_O) : Option ai_N := match ai_ld ls i with
  | some a => bif Nat.beq (ai_kd a) d then ai_nx nx ls (a :: st) O else none
  | none => none
noncomputable def ai_store (d i nx : Nat) (ls : ai_L) (st : List ai_v) (O : ai_O) : Option ai_N := match st with
  | a :: r => bif Nat.beq (ai_kd a) d then ai_nx nx (ai_sto d i a ls) r O else none
  | [] => none
noncomputable def ai_tinc (o : Nat) (q : Option (Nat × Nat)) : Option (Nat × Nat) := match q with
  | some q => bif Nat.ble 2147483648 (q.2 + o) then some (q.1, q.2 + o - 2147483648) else none
  | none => none
noncomputable def ai_inc (o : Nat) (q : Nat × Nat × Option (Nat × Nat)) : Nat × Nat × Option (Nat × Nat) := bif Nat.ble 2147483648 (q.1 + o) && Nat.blt (q.2.1 + o) 6442450944 then (q.1 + o - 2147483648, q.2.1 + o - 2147483648, ai_tinc o q.2.2) else (0, 4294967295, none)
noncomputable def ai_iinc (i x nx : Nat) (ls : ai_L) (st : List ai_v) (O : ai_O) : Option ai_N := match ai_ld ls i with
  | some (.inl q) => ai_nx nx (ai_sto 0 i (.inl (ai_inc (ai_off x) q)) ls) st O
  | _ => none
noncomputable def ai_bin (F : Nat × Nat → Nat × Nat → Option (Nat × Nat)) (nx : Nat) (ls : ai_L) (st : List ai_v) (O : ai_O) : Option ai_N := match st with
  | .inl q :: .inl p :: r => (match F (p.1, p.2.1) (q.1, q.2.1) with | some w => ai_nx nx ls (.inl (w.1, w.2, none) :: r) O | none => none)
  | _ => none
noncomputable def ai_mm (F : Nat × Nat → Nat × Nat → Option (Nat × Nat)) (nx : Nat) (ls : ai_L) (st : List ai_v) (O : ai_O) : Option ai_N := match st with
  | .inl q :: .inl p :: r => bif Nat.ble (ai_sum r) 8 then (match F (p.1, p.2.1) (q.1, q.2.1) with | some w => ai_nx nx ls (.inl (w.1, w.2, none) :: r) O | none => none) else none
  | _ => none
noncomputable def ai_ll (nx : Nat) (ls : ai_L) (st : List ai_v) (O : ai_O) : Option ai_N := match st with
  | .inr (.inl _) :: .inr (.inl _) :: r => ai_nx nx ls (.inr (.inl none) :: r) O
  | _ => none
noncomputable def ai_lmul (nx : Nat) (ls : ai_L) (st : List ai_v) (O : ai_O) : Option ai_N := match st with
  | .inr (.inl (some b)) :: .inr (.inl (some a)) :: r => ai_nx nx ls (.inr (.inl (some (en_lmul a b))) :: r) O
  | .inr (.inl _) :: .inr (.inl _) :: r => ai_nx nx ls (.inr (.inl none) :: r) O
  | _ => none
noncomputable def ai_ldv (nx : Nat) (ls : ai_L) (st : List ai_v) (O : ai_O) : Option ai_N := match st with
  | .inr (.inl (some b)) :: .inr (.inl _) :: r => bif Nat.beq (b % 18446744073709551616) 0 then none else ai_nx nx ls (.inr (.inl none) :: r) O
  | _ => none
noncomputable def ai_li (nx : Nat) (ls : ai_L) (st : List ai_v) (O : ai_O) : Option ai_N := match st with
  | .inl _ :: .inr (.inl _) :: r => ai_nx nx ls (.inr (.inl none) :: r) O
  | _ => none
noncomputable def ai_lcmp (nx : Nat) (ls : ai_L) (st : List ai_v) (O : ai_O) : Option ai_N := match st with
  | .inr (.inl _) :: .inr (.inl _) :: r => ai_nx nx ls (.inl (2147483647, 2147483649, none) :: r) O
  | _ => none
noncomputable def ai_i2l (nx : Nat) (ls : ai_L) (st : List ai_v) (O : ai_O) : Option ai_N := match st with
  | .inl q :: r => bif Nat.beq q.1 q.2.1 then ai_nx nx ls (.inr (.inl (some (nI (ai_un q.1)).toInt64.toBitVec.toNat)) :: r) O else ai_nx nx ls (.inr (.inl none) :: r) O
  | _ => none
noncomputable def ai_l2i (nx : Nat) (ls : ai_L) (st : List ai_v) (O : ai_O) : Option ai_N := match st with
  | .inr (.inl _) :: r => ai_nx nx ls (.inl (0, 4294967295, none) :: r) O
  | _ => none
noncomputable def ai_i2b (nx : Nat) (ls : ai_L) (st : List ai_v) (O : ai_O) : Option ai_N := match st with
  | .inl _ :: r => ai_nx nx ls (.inl (2147483520, 2147483775, none) :: r) O
  | _ => none
noncomputable def ai_dup (nx : Nat) (ls : ai_L) (st : List ai_v) (O : ai_O) : Option ai_N := match st with
  | a :: r => bif Nat.beq (ai_cat a) 1 then ai_nx nx ls (a :: a :: r) O else none
  | [] => none
noncomputable def ai_dup2 (nx : Nat) (ls : ai_L) (st : List ai_v) (O : ai_O) : Option ai_N := match st with
  | a :: b :: r => bif Nat.beq (ai_cat a) 1 && Nat.beq (ai_cat b) 1 then ai_nx nx ls (a :: b :: a :: b :: r) O else none
  | _ => none
noncomputable def ai_pop (m nx : Nat) (ls : ai_L) (st : List ai_v) (O : ai_O) : Option ai_N := match st with
  | a :: r => bif Nat.beq (ai_cat a) m then ai_nx nx ls r O else none
  | [] => none
noncomputable def ai_jump (b : Option Bool) (tg nx : Nat) (ls : ai_L) (st : List ai_v) (O : ai_O) : Option ai_N := match b with
  | some b => bif b then ai_nx tg ls st O else ai_nx nx ls st O
  | none => some (.inl [(tg, ls, st, O), (nx, ls, st, O)])
noncomputable def ai_cmp1 (c : ClassFile.Cond) (tg nx : Nat) (ls : ai_L) (st : List ai_v) (O : ai_O) : Option ai_N := match st with
  | .inl p :: r => ai_jump (ai_rel c (p.1, p.2.1) (2147483648, 2147483648)) tg nx ls r O
  | _ => none
noncomputable def ai_cmp2 (c : ClassFile.Cond) (tg nx : Nat) (ls : ai_L) (st : List ai_v) (O : ai_O) : Option ai_N := match st with
  | .inl q :: .inl p :: r => ai_jump (ai_rel c (p.1, p.2.1) (q.1, q.2.1)) tg nx ls r O
  | _ => none
/-- are two references the same: some none where nobody knows -/
noncomputable def ai_ac (a b : Nat) : Option (Option Bool) :=
  bif Nat.beq a 0 then some (some (Nat.beq b 0)) else bif Nat.beq b 0 then some (some false)
  else bif Nat.ble 100 a && Nat.ble 100 b then some (some (Nat.beq a b))
  else bif (Nat.ble 4 a && Nat.ble a 45) && (Nat.ble 4 b && Nat.ble b 45) then some (some (Nat.beq a b))
  else bif (Nat.beq a 1 || (Nat.ble 4 a && Nat.ble a 45)) && (Nat.beq b 1 || (Nat.ble 4 b && Nat.ble b 45)) then some none else none
noncomputable def ai_acmp (neg : Bool) (tg nx : Nat) (ls : ai_L) (st : List ai_v) (O : ai_O) : Option ai_N := match st with
  | .inr (.inr b) :: .inr (.inr a) :: r => (match ai_ac a b with
    | some o => ai_jump (bif neg then en_not o else o) tg nx ls r O
    | none => none)
  | _ => none
noncomputable def ai_ifnull (tg nx : Nat) (ls : ai_L) (st : List ai_v) (O : ai_O) : Option ai_N := match st with
  | .inr (.inr a) :: r => ai_jump (some (Nat.beq a 0)) tg nx ls r O
  | _ => none
noncomputable def ai_tgs (pc : Nat) (ls : ai_L) (r : List ai_v) (O : ai_O) (os : List Int) : Option (List ai_S) := List.rec (motive := fun _ => Option (List ai_S)) (some []) (fun o _ ih => if 0 ≤ (pc : Int) + o then (match ih with | some l => some ((((pc : Int) + o).toNat, ls, r, O) :: l) | none => none) else none) os
noncomputable def ai_switch (pc : Nat) (df lo hi : Int) (os : Array Int) (ls : ai_L) (st : List ai_v) (O : ai_O) : Option ai_N := match st with
  | .inl q :: r => (if (q.2.1 : Int) - 2147483648 < lo ∨ hi < (q.1 : Int) - 2147483648 then (if 0 ≤ (pc : Int) + df then ai_nx ((pc : Int) + df).toNat ls r O else none)
      else (if q.1 = q.2.1 then (match en_nth os.toList ((q.1 : Int) - 2147483648 - lo).toNat with
        | some o => (if 0 ≤ (pc : Int) + o then ai_nx ((pc : Int) + o).toNat ls r O else none)
        | none => none) else (if en_len os.toList = (hi - lo + 1).toNat then (match ai_tgs pc ls r O (df :: os.toList) with | some l => some (.inl l) | none => none) else none)))
  | _ => none
/-- behind a load: one state for each value -/
noncomputable def ai_lds (h : ai_h) (nx : Nat) (ls : ai_L) (r : List ai_v) (O : ai_O) : Option ai_N := some (.inl ((ai_h2v h).map (fun a => (nx, ls, a :: r, O))))
noncomputable def ai_wf (c x1 : Nat) : Option ai_v := bif Nat.beq c 1 then (match x1 with | 0 => some (.inr (.inl none)) | 1 => some (.inl (2147483648, 2147483651, none)) | 2 => some (.inl (2147483637, 2147483652, none)) | _ => none)
  else bif Nat.ble 4 c && Nat.ble c 45 then (match en_nth en_wks (c - 4) with
    | some q => (match x1 with | 0 => some (.inr (.inl (some q.1))) | 1 => some (.inl (ai_off q.2.1, ai_off q.2.1, none)) | 2 => some (.inl (ai_off q.2.2, ai_off q.2.2, none)) | _ => none)
    | none => none) else none
noncomputable def ai_getf (G : ai_G) (x1 x2 nx : Nat) (ls : ai_L) (st : List ai_v) (O : ai_O) : Option ai_N := match st with
  | .inr (.inr c) :: r => bif Nat.ble 100 c then (match G (c - 100) with
      | some g => bif (bif g.1 then false else true) && (Nat.beq g.2.1 x2 && Nat.blt x1 g.2.2.1) then (match ai_sl O (c - 100) g x1 with | some h => ai_lds h nx ls r O | none => none) else none
      | none => none)
    else bif Nat.beq x2 11 then (match ai_wf c x1 with | some a => ai_nx nx ls (a :: r) O | none => none) else none
  | _ => none
noncomputable def ai_fitk (kd : Nat) (a : ai_v) : Bool := bif Nat.beq kd 3 then (match a with | .inl q => Nat.ble 2147483648 q.1 && Nat.ble q.2.1 2147483649 | _ => false) else Nat.beq (ai_kd a) kd
/-- a write to the places from a to b of the cell c -/
noncomputable def ai_put (G : ai_G) (wr : ai_W) (c a b : Nat) (v : ai_v) (rs : List (Nat × ai_h)) (O : ai_O) : Option ai_O := bif ai_fit rs a b (ai_v2h v) && (ai_wok wr c a b && (bif ai_frz c then Nat.beq a b && ai_ep O c a v else true)) then some (bif Nat.beq a b then (c, a, ai_v2h v) :: ai_drop O c a b else ai_drop O c a b) else none
noncomputable def ai_putf (G : ai_G) (wr : ai_W) (x1 ci kd nx : Nat) (ls : ai_L) (st : List ai_v) (O : ai_O) : Option ai_N := match st with
  | v :: .inr (.inr c) :: r => bif Nat.ble 100 c then (match G (c - 100) with
      | some g => bif (bif g.1 then false else true) && (Nat.beq g.2.1 ci && (Nat.blt x1 g.2.2.1 && ai_fitk kd v)) then (match ai_put G wr (c - 100) x1 x1 v g.2.2.2 O with | some O' => ai_nx nx ls r O' | none => none) else none
      | none => none) else none
  | _ => none
/-- a place of a row of a set -/
noncomputable def ai_sj1 (G : ai_G) (cb : Nat → Bool) (q : Nat × Nat) (k : Nat) : Option ai_h := match G k with
  | some g => bif (g.1 && cb g.2.1) && (Nat.ble 2147483648 q.1 && Nat.blt q.2 (g.2.2.1 + 2147483648)) then ai_jn g.2.2.2 (q.1 - 2147483648) (q.2 - 2147483648) else none
  | none => none
noncomputable def ai_sjt (h : ai_h) (ks : List Nat) (o : Option ai_h) : Option ai_h := match ks with
  | [] => some h
  | _ :: _ => (match o with | some h2 => ai_hj h h2 | none => none)
noncomputable def ai_sjn (G : ai_G) (cb : Nat → Bool) (q : Nat × Nat) (l : List Nat) : Option ai_h := List.rec (motive := fun _ => Option ai_h) none (fun k ks ih => match ai_sj1 G cb q k with
  | some h => ai_sjt h ks ih
  | none => none) l
noncomputable def ai_aget (G : ai_G) (cb : Nat → Bool) (nx : Nat) (ls : ai_L) (st : List ai_v) (O : ai_O) : Option ai_N := match st with
  | .inl q :: .inr (.inr c) :: r => bif Nat.ble 100 c then (match G (c - 100) with
      | some g => bif (g.1 && cb g.2.1) && (Nat.ble 2147483648 q.1 && Nat.blt q.2.1 (g.2.2.1 + 2147483648)) then (match (bif Nat.beq q.1 q.2.1 then ai_sl O (c - 100) g (q.1 - 2147483648) else ai_jn g.2.2.2 (q.1 - 2147483648) (q.2.1 - 2147483648)) with | some h => ai_lds h nx ls r O | none => none) else none
      | none => none)
    else bif Nat.beq c 46 then (bif cb 4 && (Nat.ble 2147483648 q.1 && Nat.blt q.2.1 2147483690) then ai_nx nx ls (.inr (.inr 1) :: r) O else none)
    else bif Nat.beq c 47 then (bif cb 0 && (Nat.ble 2147483648 q.1 && Nat.blt q.2.1 2147483657) then ai_nx nx ls (.inl (2147483648, 2147483656, none) :: r) O else none)
    else bif Nat.ble 48 c then (match ai_sjn G cb (q.1, q.2.1) (ai_set (c - 48)) with | some h => ai_lds h nx ls r O | none => none) else none
  | _ => none
/-- may a value lie in a row of the kind -/
noncomputable def ai_afit (d c : Nat) (v : ai_v) : Bool := match d, v with
  | 0, .inl _ => Nat.beq c 0
  | 1, .inr (.inl _) => Nat.beq c 3
  | 2, .inl q => (Nat.beq c 2 && (Nat.ble 2147483648 q.1 && Nat.ble q.2.1 2147483649)) || (Nat.beq c 1 && (Nat.ble 2147483520 q.1 && Nat.ble q.2.1 2147483775))
  | 3, .inr (.inr c9) => Nat.beq c 4 && (Nat.beq c9 0 || (Nat.beq c9 1 || (Nat.ble 4 c9 && Nat.ble c9 45)))
  | _, _ => false
noncomputable def ai_sp1 (G : ai_G) (wr : ai_W) (d : Nat) (q : Nat × Nat) (v : ai_v) (k : Nat) : Bool := match G k with
  | some g => (g.1 && ai_afit d g.2.1 v) && ((Nat.ble 2147483648 q.1 && Nat.blt q.2 (g.2.2.1 + 2147483648)) && (ai_fit g.2.2.2 (q.1 - 2147483648) (q.2 - 2147483648) (ai_v2h v) && (ai_wok wr k (q.1 - 2147483648) (q.2 - 2147483648) && (bif ai_frz k then false else true))))
  | none => false
noncomputable def ai_drops (O : ai_O) (a b : Nat) (l : List Nat) : ai_O := List.rec (motive := fun _ => ai_O) O (fun k _ ih => ai_drop ih k a b) l
noncomputable def ai_aput (G : ai_G) (wr : ai_W) (d nx : Nat) (ls : ai_L) (st : List ai_v) (O : ai_O) : Option ai_N := match st with
  | v :: .inl q :: .inr (.inr c) :: r => bif Nat.ble 100 c then (match G (c - 100) with
      | some g => bif (g.1 && ai_afit d g.2.1 v) && (Nat.ble 2147483648 q.1 && Nat.blt q.2.1 (g.2.2.1 + 2147483648)) then (match ai_put G wr (c - 100) (q.1 - 2147483648) (q.2.1 - 2147483648) v g.2.2.2 O with | some O' => ai_nx nx ls r O' | none => none) else none
      | none => none) else bif Nat.ble 48 c && ai_all (ai_sp1 G wr d (q.1, q.2.1) v) (ai_set (c - 48)) then ai_nx nx ls r (ai_drops O (q.1 - 2147483648) (q.2.1 - 2147483648) (ai_set (c - 48))) else none
  | _ => none
noncomputable def ai_alen (G : ai_G) (nx : Nat) (ls : ai_L) (st : List ai_v) (O : ai_O) : Option ai_N := match st with
  | .inr (.inr c) :: r => bif Nat.ble 100 c then (match G (c - 100) with
      | some g => bif g.1 && (Nat.blt g.2.1 8 && Nat.blt g.2.2.1 2147483648) then ai_nx nx ls (.inl (g.2.2.1 + 2147483648, g.2.2.1 + 2147483648, none) :: r) O else none
      | none => none)
    else bif Nat.beq c 46 then ai_nx nx ls (.inl (2147483690, 2147483690, none) :: r) O else none
  | _ => none
/-! ### calls -/
/-- what is known says what is asked -/
noncomputable def ai_ent (G : ai_G) (O : ai_O) (q : Nat × Nat × ai_h) : Bool := match ai_ov O q.1 q.2.1 with
  | some h => ai_hle h q.2.2
  | none => (match G q.1 with
    | some g => Nat.blt q.2.1 g.2.2.1 && (match ai_run g.2.2.2 q.2.1 with | some h => ai_hle h q.2.2 | none => false)
    | none => false)
noncomputable def ai_app (G : ai_G) (wr : ai_W) (as : List ai_v) (O : ai_O) (c : ai_C) : Bool := bif ai_vsle as c.2.1 then (bif ai_all (ai_ent G O) c.2.2.1 then ai_all (fun q => ai_wok wr q.1 q.2.1 q.2.2) c.2.2.2.1 else false) else false
noncomputable def ai_find (p : ai_C → Bool) (l : List ai_C) : Option ai_C := List.rec (motive := fun _ => Option ai_C) none (fun a _ ih => bif p a then some a else ih) l
/-- what is known still, behind a call that may write wr -/
noncomputable def ai_still (wr : ai_W) (O : ai_O) : ai_O := en_flt (fun q => bif ai_any (fun w => Nat.beq w.1 q.1 && (Nat.ble w.2.1 q.2.1 && Nat.ble q.2.1 w.2.2)) wr then false else true) O
noncomputable def ai_call (G : ai_G) (cs : Nat → List ai_C) (wr : ai_W) (ok : List ai_v → Bool) (mi na nx : Nat) (ls : ai_L) (st : List ai_v) (O : ai_O) : Option ai_N := match ai_take na st [] with
  | some q => bif ok q.1 && Nat.ble (ai_sum q.2) 8 then (match ai_find (ai_app G wr q.1 O) (cs mi) with
    | some c => some (.inl (c.2.2.2.2.map (fun o => (nx, ls, o.1.toList ++ q.2, ai_still c.2.2.2.1 O ++ o.2))))
    | none => none) else none
  | none => none
noncomputable def ai_recv (G : ai_G) (rc : Nat) (as : List ai_v) : Bool := match as with
  | .inr (.inr c) :: _ => Nat.ble 100 c && (match G (c - 100) with
    | some g => (bif g.1 then false else true) && Nat.beq g.2.1 rc
    | none => false)
  | _ => false
noncomputable def ai_ret (d b : Nat) (st : List ai_v) (O : ai_O) : Option ai_N := match st with
  | [a] => bif Nat.beq (ai_kd a) d && (bif Nat.beq b 1 then ai_fitk 3 a else true) then some (.inr (some a, O)) else none
  | _ => none
noncomputable def ai_disp (i : Instr) : ai_D := match i with
  | .iconst _ => fun G cs wr pc e ls st O => ai_ci e.2.1 e.1 ls st O
  | .bipush _ => fun G cs wr pc e ls st O => ai_ci e.2.1 e.1 ls st O
  | .sipush _ => fun G cs wr pc e ls st O => ai_ci e.2.1 e.1 ls st O
  | .ldc _ => fun G cs wr pc e ls st O => ai_ci e.2.1 e.1 ls st O
  | .ldc_w _ => fun G cs wr pc e ls st O => ai_ci e.2.1 e.1 ls st O
  | .lconst _ => fun G cs wr pc e ls st O => ai_nx e.1 ls (.inr (.inl (some e.2.1)) :: st) O
  | .ldc2_w _ => fun G cs wr pc e ls st O => ai_nx e.1 ls (.inr (.inl (some e.2.1)) :: st) O
  | .aconst_null => fun G cs wr pc e ls st O => ai_nx e.1 ls (.inr (.inr 0) :: st) O
  | .iload i => fun G cs wr pc e ls st O => ai_load 0 i e.1 ls st O
  | .iload_n i => fun G cs wr pc e ls st O => ai_load 0 i.val e.1 ls st O
  | .lload i => fun G cs wr pc e ls st O => ai_load 1 i e.1 ls st O
  | .lload_n i => fun G cs wr pc e ls st O => ai_load 1 i.val e.1 ls st O
  | .aload i => fun G cs wr pc e ls st O => ai_load 2 i e.1 ls st O
  | .aload_n i => fun G cs wr pc e ls st O => ai_load 2 i.val e.1 ls st O
  | .istore i => fun G cs wr pc e ls st O => ai_store 0 i e.1 ls st O
  | .istore_n i => fun G cs wr pc e ls st O => ai_store 0 i.val e.1 ls st O
  | .lstore i => fun G cs wr pc e ls st O => ai_store 1 i e.1 ls st O
  | .lstore_n i => fun G cs wr pc e ls st O => ai_store 1 i.val e.1 ls st O
  | .astore i => fun G cs wr pc e ls st O => ai_store 2 i e.1 ls st O
  | .astore_n i => fun G cs wr pc e ls st O => ai_store 2 i.val e.1 ls st O
  | .iinc i _ => fun G cs wr pc e ls st O => ai_iinc i e.2.1 e.1 ls st O
  | .iadd => fun G cs wr pc e ls st O => ai_bin ai_iadd e.1 ls st O
  | .isub => fun G cs wr pc e ls st O => ai_bin ai_isub e.1 ls st O
  | .imul => fun G cs wr pc e ls st O => ai_bin ai_imul e.1 ls st O
  | .iand => fun G cs wr pc e ls st O => ai_bin (ai_exo (en_ii en_iand) ai_iand) e.1 ls st O
  | .ior => fun G cs wr pc e ls st O => ai_bin ai_ior e.1 ls st O
  | .ixor => fun G cs wr pc e ls st O => ai_bin ai_any2 e.1 ls st O
  | .ishl => fun G cs wr pc e ls st O => ai_bin ai_ishl e.1 ls st O
  | .ishr => fun G cs wr pc e ls st O => ai_bin (ai_exo (en_ii en_ishr) ai_ishr) e.1 ls st O
  | .idiv => fun G cs wr pc e ls st O => ai_bin ai_idiv e.1 ls st O
  | .irem => fun G cs wr pc e ls st O => ai_bin ai_irem e.1 ls st O
  | .ladd => fun G cs wr pc e ls st O => ai_ll e.1 ls st O
  | .lsub => fun G cs wr pc e ls st O => ai_ll e.1 ls st O
  | .land => fun G cs wr pc e ls st O => ai_ll e.1 ls st O
  | .lor => fun G cs wr pc e ls st O => ai_ll e.1 ls st O
  | .lxor => fun G cs wr pc e ls st O => ai_ll e.1 ls st O
  | .lmul => fun G cs wr pc e ls st O => ai_lmul e.1 ls st O
  | .ldiv => fun G cs wr pc e ls st O => ai_ldv e.1 ls st O
  | .lrem => fun G cs wr pc e ls st O => ai_ldv e.1 ls st O
  | .lshl => fun G cs wr pc e ls st O => ai_li e.1 ls st O
  | .lshr => fun G cs wr pc e ls st O => ai_li e.1 ls st O
  | .lushr => fun G cs wr pc e ls st O => ai_li e.1 ls st O
  | .lcmp => fun G cs wr pc e ls st O => ai_lcmp e.1 ls st O
  | .i2l => fun G cs wr pc e ls st O => ai_i2l e.1 ls st O
  | .l2i => fun G cs wr pc e ls st O => ai_l2i e.1 ls st O
  | .i2b => fun G cs wr pc e ls st O => ai_i2b e.1 ls st O
  | .dup => fun G cs wr pc e ls st O => ai_dup e.1 ls st O
  | .dup2 => fun G cs wr pc e ls st O => ai_dup2 e.1 ls st O
  | .pop => fun G cs wr pc e ls st O => ai_pop 1 e.1 ls st O
  | .pop2 => fun G cs wr pc e ls st O => ai_pop 2 e.1 ls st O
  | .ifCond c _ => fun G cs wr pc e ls st O => ai_cmp1 c e.2.1 e.1 ls st O
  | .if_icmp c _ => fun G cs wr pc e ls st O => ai_cmp2 c e.2.1 e.1 ls st O
  | .if_acmp .eq _ => fun G cs wr pc e ls st O => ai_acmp false e.2.1 e.1 ls st O
  | .if_acmp .ne _ => fun G cs wr pc e ls st O => ai_acmp true e.2.1 e.1 ls st O
  | .ifnull _ => fun G cs wr pc e ls st O => ai_ifnull e.2.1 e.1 ls st O
  | .goto _ => fun G cs wr pc e ls st O => ai_nx e.2.1 ls st O
  | .tableswitch d lo hi os => fun G cs wr pc e ls st O => ai_switch pc d lo hi os ls st O
  | .getfield _ => fun G cs wr pc e ls st O => ai_getf G e.2.1 (e.2.2 % 16) e.1 ls st O
  | .putfield _ => fun G cs wr pc e ls st O => ai_putf G wr e.2.1 (e.2.2 % 16) (e.2.2 / 16 % 4) e.1 ls st O
  | .getstatic _ => fun G cs wr pc e ls st O => bif Nat.blt e.2.1 46 then ai_nx e.1 ls (.inr (.inr (e.2.1 + 2)) :: st) O else none
  | .arraylength => fun G cs wr pc e ls st O => ai_alen G e.1 ls st O
  | .iaload => fun G cs wr pc e ls st O => ai_aget G (fun c => Nat.beq c 0) e.1 ls st O
  | .laload => fun G cs wr pc e ls st O => ai_aget G (fun c => Nat.beq c 3) e.1 ls st O
  | .baload => fun G cs wr pc e ls st O => ai_aget G (fun c => Nat.beq c 2 || Nat.beq c 1) e.1 ls st O
  | .aaload => fun G cs wr pc e ls st O => ai_aget G (fun c => Nat.ble 4 c && Nat.ble c 7) e.1 ls st O
  | .iastore => fun G cs wr pc e ls st O => ai_aput G wr 0 e.1 ls st O
  | .lastore => fun G cs wr pc e ls st O => ai_aput G wr 1 e.1 ls st O
  | .bastore => fun G cs wr pc e ls st O => ai_aput G wr 2 e.1 ls st O
  | .aastore => fun G cs wr pc e ls st O => ai_aput G wr 3 e.1 ls st O
  | .invokestatic _ => fun G cs wr pc e ls st O => bif Nat.beq e.2.1 9991 then ai_mm ai_imax e.1 ls st O else bif Nat.beq e.2.1 9992 then ai_mm ai_imin e.1 ls st O else ai_call G cs wr (fun _ => true) e.2.1 e.2.2 e.1 ls st O
  | .invokevirtual _ => fun G cs wr pc e ls st O => ai_call G cs wr (ai_recv G (e.2.2 / 16)) e.2.1 (e.2.2 % 16) e.1 ls st O
  | .return_ => fun G cs wr pc e ls st O => (match st with | [] => some (.inr (none, O)) | _ :: _ => none)
  | .ireturn => fun G cs wr pc e ls st O => ai_ret 0 e.2.1 st O
  | .lreturn => fun G cs wr pc e ls st O => ai_ret 1 0 st O
  | .areturn => fun G cs wr pc e ls st O => ai_ret 2 0 st O
  | _ => fun G cs wr pc e ls st O => none
noncomputable def ai_step (G : ai_G) (cs : Nat → List ai_C) (wr : ai_W) (pc : Nat) (e : en_I) (ls : ai_L) (st : List ai_v) (O : ai_O) : Option ai_N := ai_disp e.1 G cs wr pc e.2 ls st O
end AI4
