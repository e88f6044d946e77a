section FZW
/-! an instruction is decoded from its own bytes: a window of three will do -/
noncomputable def fz_wn (all win : ByteArray) (off : Nat) : Prop := ∀ (i : Nat) (h : i < win.size), ∃ h' : off + i < all.size, all[off + i] = win[i]
noncomputable def fz_W {α : Type} (r : Jvm.ClassFile.Decoder α) : Prop := ∀ (all win : ByteArray) (off : Nat), fz_wn all win off → ∀ (p : Nat) (v : α) (p' : Nat), r win p = .ok (v, p') → r all (off + p) = .ok (v, off + p')
theorem fz_pure {α : Type} (a : α) : fz_W (pure a : Jvm.ClassFile.Decoder α) := by
  intro all win off _ p v p' h
  have h : (Except.ok (a, p) : Except Jvm.ClassFile.DecodeError (α × Nat)) = .ok (v, p') := h
  cases h
  rfl
theorem fz_bind {α β : Type} {r : Jvm.ClassFile.Decoder α} {f : α → Jvm.ClassFile.Decoder β} (h1 : fz_W r) (h2 : ∀ a, fz_W (f a)) : fz_W (r >>= f) := by
  intro all win off hw p v p' h
  have h : Except.bind (r win p) (fun z => f z.1 win z.2) = .ok (v, p') := h
  cases hz : r win p with
  | error e => rw [hz] at h; cases h
  | ok z =>
    rw [hz] at h
    have h : f z.1 win z.2 = .ok (v, p') := h
    have h3 := h1 all win off hw p z.1 z.2 hz
    show Except.bind (r all (off + p)) (fun z => f z.1 all z.2) = _
    rw [h3]
    exact h2 z.1 all win off hw z.2 v p' h
theorem fz_map {α β : Type} {r : Jvm.ClassFile.Decoder α} {f : α → β} (h1 : fz_W r) : fz_W (f <$> r) := by
  intro all win off hw p v p' h
  have h : Except.bind (r win p) (fun z => .ok (f z.1, z.2)) = .ok (v, p') := h
  cases hz : r win p with
  | error e => rw [hz] at h; cases h
  | ok z =>
    rw [hz] at h
    have h : (Except.ok (f z.1, z.2) : Except Jvm.ClassFile.DecodeError (β × Nat)) = .ok (v, p') := h
    have h3 := h1 all win off hw p z.1 z.2 hz
    show Except.bind (r all (off + p)) (fun z => .ok (f z.1, z.2)) = _
    rw [h3]
    cases h
    rfl
theorem fz_u1y (b : ByteArray) (p : Nat) (h : p < b.size) : (Jvm.ClassFile.Reader.u1 : Jvm.ClassFile.Decoder Nat) b p = .ok (b[p].toNat, p + 1) := by
  show (dite (p < b.size) (fun h => (do set (p + 1); pure b[p].toNat : Jvm.ClassFile.Decoder Nat)) (fun _ => throw (Jvm.ClassFile.HasTruncated.truncated p))) b p = _
  rw [dif_pos h]
  rfl
theorem fz_u1n (b : ByteArray) (p : Nat) (h : ¬ p < b.size) : (Jvm.ClassFile.Reader.u1 : Jvm.ClassFile.Decoder Nat) b p = .error (.truncated p) := by
  show (dite (p < b.size) (fun h => (do set (p + 1); pure b[p].toNat : Jvm.ClassFile.Decoder Nat)) (fun _ => throw (Jvm.ClassFile.HasTruncated.truncated p))) b p = _
  rw [dif_neg h]
  rfl
theorem fz_u1 : fz_W (Jvm.ClassFile.Reader.u1 : Jvm.ClassFile.Decoder Nat) := by
  intro all win off hw p v p' h
  by_cases c : p < win.size
  · have e := (fz_u1y win p c).symm.trans h
    obtain ⟨c', e'⟩ := hw p c
    have e2 := fz_u1y all (off + p) c'
    rw [e'] at e2
    refine e2.trans ?_
    cases e
    rfl
  · have e := (fz_u1n win p c).symm.trans h
    cases e
theorem fz_u2 : fz_W (Jvm.ClassFile.Reader.u2 : Jvm.ClassFile.Decoder Nat) := fz_bind fz_u1 (fun _ => fz_bind fz_u1 (fun _ => fz_pure _))
theorem fz_s1 : fz_W (Jvm.ClassFile.Reader.s1 : Jvm.ClassFile.Decoder Int) := fz_map fz_u1
theorem fz_s2 : fz_W (Jvm.ClassFile.Reader.s2 : Jvm.ClassFile.Decoder Int) := fz_map fz_u2
theorem fz_bindP {α β : Type} {r : Jvm.ClassFile.Decoder α} {f : α → Jvm.ClassFile.Decoder β} (L : List α) (h1 : fz_W r) (h2 : ∀ a ∈ L, fz_W (f a)) {all win : ByteArray} {off : Nat} (hw : fz_wn all win off) {p p' : Nat} {v : β} (hp : ∀ a p1, r win p = .ok (a, p1) → a ∈ L) (h : (r >>= f) win p = .ok (v, p')) : (r >>= f) all (off + p) = .ok (v, off + p') := by
  have h : Except.bind (r win p) (fun z => f z.1 win z.2) = .ok (v, p') := h
  cases hz : r win p with
  | error e => rw [hz] at h; cases h
  | ok z =>
    rw [hz] at h
    have h : f z.1 win z.2 = .ok (v, p') := h
    have h3 := h1 all win off hw p z.1 z.2 hz
    show Except.bind (r all (off + p)) (fun z => f z.1 all z.2) = _
    rw [h3]
    exact h2 z.1 (hp z.1 z.2 hz) all win off hw z.2 v p' h
theorem fz_n {P : Nat → Prop} : ∀ a ∈ ([] : List Nat), P a := fun _ h => absurd h List.not_mem_nil
theorem fz_c {P : Nat → Prop} {x : Nat} {l : List Nat} (h1 : P x) (h2 : ∀ a ∈ l, P a) : ∀ a ∈ x :: l, P a := fun a h => by
  rcases List.mem_cons.mp h with e | h
  · rw [e]; exact h1
  · exact h2 a h
noncomputable def fz_opl : List Nat := [42, 180, 182, 21, 3, 27, 28, 96, 4, 167, 16, 46, 172, 29, 181, 54, 153, 132, 79, 162, 43, 5, 154, 184, 17, 177, 160, 62, 89, 100, 2, 61, 104, 20, 6, 87, 7, 80, 44, 26, 178, 159, 183, 133, 60, 22, 51, 163, 158, 8, 187, 31, 55, 50, 155, 47, 164, 84, 127, 92, 166, 161, 129, 156, 105, 9, 30, 97, 136, 112, 173, 121, 33, 126, 108, 125, 148, 64, 45, 122, 109, 18, 190, 63, 77, 10, 32, 66, 189, 83, 120, 113, 198, 176, 191, 58, 25, 123, 101, 128, 65, 165, 78, 1, 76, 88, 19, 131, 145, 130, 199, 157, 59]
set_option maxRecDepth 100000 in
theorem fz_instr {pc : Nat} {all win : ByteArray} {off : Nat} (hw : fz_wn all win off) {v : Instr} {p' : Nat} (hp : ∀ a p1, (Jvm.ClassFile.Reader.u1 : Jvm.ClassFile.Decoder Nat) win 0 = .ok (a, p1) → a ∈ fz_opl) (h : Jvm.ClassFile.Decoder.instr pc win 0 = .ok (v, p')) : Jvm.ClassFile.Decoder.instr pc all (off + 0) = .ok (v, off + p') := by
  unfold Jvm.ClassFile.Decoder.instr at h ⊢
  refine fz_bindP fz_opl fz_u1 ?_ hw hp h
  unfold fz_opl
  refine fz_c (fz_pure _) ?_
  refine fz_c (fz_bind fz_u2 (fun _ => fz_pure _)) ?_
  refine fz_c (fz_bind fz_u2 (fun _ => fz_pure _)) ?_
  refine fz_c (fz_bind fz_u1 (fun _ => fz_pure _)) ?_
  refine fz_c (fz_pure _) ?_
  refine fz_c (fz_pure _) ?_
  refine fz_c (fz_pure _) ?_
  refine fz_c (fz_pure _) ?_
  refine fz_c (fz_pure _) ?_
  refine fz_c (fz_bind fz_s2 (fun _ => fz_pure _)) ?_
  refine fz_c (fz_bind fz_s1 (fun _ => fz_pure _)) ?_
  refine fz_c (fz_pure _) ?_
  refine fz_c (fz_pure _) ?_
  refine fz_c (fz_pure _) ?_
  refine fz_c (fz_bind fz_u2 (fun _ => fz_pure _)) ?_
  refine fz_c (fz_bind fz_u1 (fun _ => fz_pure _)) ?_
  refine fz_c (fz_bind fz_s2 (fun _ => fz_pure _)) ?_
  refine fz_c (fz_bind fz_u1 (fun _ => fz_bind fz_s1 (fun _ => fz_pure _))) ?_
  refine fz_c (fz_pure _) ?_
  refine fz_c (fz_bind fz_s2 (fun _ => fz_pure _)) ?_
  refine fz_c (fz_pure _) ?_
  refine fz_c (fz_pure _) ?_
  refine fz_c (fz_bind fz_s2 (fun _ => fz_pure _)) ?_
  refine fz_c (fz_bind fz_u2 (fun _ => fz_pure _)) ?_
  refine fz_c (fz_bind fz_s2 (fun _ => fz_pure _)) ?_
  refine fz_c (fz_pure _) ?_
  refine fz_c (fz_bind fz_s2 (fun _ => fz_pure _)) ?_
  refine fz_c (fz_pure _) ?_
  refine fz_c (fz_pure _) ?_
  refine fz_c (fz_pure _) ?_
  refine fz_c (fz_pure _) ?_
  refine fz_c (fz_pure _) ?_
  refine fz_c (fz_pure _) ?_
  refine fz_c (fz_bind fz_u2 (fun _ => fz_pure _)) ?_
  refine fz_c (fz_pure _) ?_
  refine fz_c (fz_pure _) ?_
  refine fz_c (fz_pure _) ?_
  refine fz_c (fz_pure _) ?_
  refine fz_c (fz_pure _) ?_
  refine fz_c (fz_pure _) ?_
  refine fz_c (fz_bind fz_u2 (fun _ => fz_pure _)) ?_
  refine fz_c (fz_bind fz_s2 (fun _ => fz_pure _)) ?_
  refine fz_c (fz_bind fz_u2 (fun _ => fz_pure _)) ?_
  refine fz_c (fz_pure _) ?_
  refine fz_c (fz_pure _) ?_
  refine fz_c (fz_bind fz_u1 (fun _ => fz_pure _)) ?_
  refine fz_c (fz_pure _) ?_
  refine fz_c (fz_bind fz_s2 (fun _ => fz_pure _)) ?_
  refine fz_c (fz_bind fz_s2 (fun _ => fz_pure _)) ?_
  refine fz_c (fz_pure _) ?_
  refine fz_c (fz_bind fz_u2 (fun _ => fz_pure _)) ?_
  refine fz_c (fz_pure _) ?_
  refine fz_c (fz_bind fz_u1 (fun _ => fz_pure _)) ?_
  refine fz_c (fz_pure _) ?_
  refine fz_c (fz_bind fz_s2 (fun _ => fz_pure _)) ?_
  refine fz_c (fz_pure _) ?_
  refine fz_c (fz_bind fz_s2 (fun _ => fz_pure _)) ?_
  refine fz_c (fz_pure _) ?_
  refine fz_c (fz_pure _) ?_
  refine fz_c (fz_pure _) ?_
  refine fz_c (fz_bind fz_s2 (fun _ => fz_pure _)) ?_
  refine fz_c (fz_bind fz_s2 (fun _ => fz_pure _)) ?_
  refine fz_c (fz_pure _) ?_
  refine fz_c (fz_bind fz_s2 (fun _ => fz_pure _)) ?_
  refine fz_c (fz_pure _) ?_
  refine fz_c (fz_pure _) ?_
  refine fz_c (fz_pure _) ?_
  refine fz_c (fz_pure _) ?_
  refine fz_c (fz_pure _) ?_
  refine fz_c (fz_pure _) ?_
  refine fz_c (fz_pure _) ?_
  refine fz_c (fz_pure _) ?_
  refine fz_c (fz_pure _) ?_
  refine fz_c (fz_pure _) ?_
  refine fz_c (fz_pure _) ?_
  refine fz_c (fz_pure _) ?_
  refine fz_c (fz_pure _) ?_
  refine fz_c (fz_pure _) ?_
  refine fz_c (fz_pure _) ?_
  refine fz_c (fz_pure _) ?_
  refine fz_c (fz_pure _) ?_
  refine fz_c (fz_bind fz_u1 (fun _ => fz_pure _)) ?_
  refine fz_c (fz_pure _) ?_
  refine fz_c (fz_pure _) ?_
  refine fz_c (fz_pure _) ?_
  refine fz_c (fz_pure _) ?_
  refine fz_c (fz_pure _) ?_
  refine fz_c (fz_pure _) ?_
  refine fz_c (fz_bind fz_u2 (fun _ => fz_pure _)) ?_
  refine fz_c (fz_pure _) ?_
  refine fz_c (fz_pure _) ?_
  refine fz_c (fz_pure _) ?_
  refine fz_c (fz_bind fz_s2 (fun _ => fz_pure _)) ?_
  refine fz_c (fz_pure _) ?_
  refine fz_c (fz_pure _) ?_
  refine fz_c (fz_bind fz_u1 (fun _ => fz_pure _)) ?_
  refine fz_c (fz_bind fz_u1 (fun _ => fz_pure _)) ?_
  refine fz_c (fz_pure _) ?_
  refine fz_c (fz_pure _) ?_
  refine fz_c (fz_pure _) ?_
  refine fz_c (fz_pure _) ?_
  refine fz_c (fz_bind fz_s2 (fun _ => fz_pure _)) ?_
  refine fz_c (fz_pure _) ?_
  refine fz_c (fz_pure _) ?_
  refine fz_c (fz_pure _) ?_
  refine fz_c (fz_pure _) ?_
  refine fz_c (fz_bind fz_u2 (fun _ => fz_pure _)) ?_
  refine fz_c (fz_pure _) ?_
  refine fz_c (fz_pure _) ?_
  refine fz_c (fz_pure _) ?_
  refine fz_c (fz_bind fz_s2 (fun _ => fz_pure _)) ?_
  refine fz_c (fz_bind fz_s2 (fun _ => fz_pure _)) ?_
  refine fz_c (fz_pure _) ?_
  exact fz_n
/-! the bytes, walked once -/
noncomputable def fz_in (a : Nat) (l : List Nat) : Bool := List.rec (motive := fun _ => Bool) false (fun x _ ih => bif Nat.beq x a then true else ih) l
theorem fz_in_ok {a : Nat} {l : List Nat} (h : fz_in a l = true) : a ∈ l := by
  induction l with
  | nil => cases h
  | cons x l ih =>
    have h : (bif Nat.beq x a then true else fz_in a l) = true := h
    cases c : Nat.beq x a with
    | true => rw [Nat.eq_of_beq_eq_true c]; exact List.mem_cons_self
    | false => rw [c] at h; exact List.mem_cons_of_mem _ (ih h)
noncomputable def fz_op (l : List UInt8) : Bool := match l with
  | a :: _ => fz_in a.toNat fz_opl
  | [] => false
noncomputable def fz_dec (pc : Nat) (l : List UInt8) (e : en_I) : Bool := match Jvm.ClassFile.Decoder.instr pc ⟨⟨l.take 3⟩⟩ 0 with
  | .ok v => decide (v.1 = e.1) && decide (e.2.1 = pc + v.2)
  | .error _ => false
theorem fz_wn_of {cc : ByteArray} {pc : Nat} : fz_wn cc ⟨⟨(cc.data.toList.drop pc).take 3⟩⟩ pc := by
  intro i h
  have h9 : i < ((cc.data.toList.drop pc).take 3).length := h
  have h1 := h9
  rw [List.length_take, List.length_drop] at h1
  have h2 : pc + i < cc.data.toList.length := by omega
  refine ⟨h2, ?_⟩
  show cc.data.toList[pc + i] = ((cc.data.toList.drop pc).take 3)[i]
  rw [List.getElem_take, List.getElem_drop]
theorem fz_dec_ok {cc : ByteArray} {pc : Nat} {e : en_I} (hop : fz_op (cc.data.toList.drop pc) = true) (h : fz_dec pc (cc.data.toList.drop pc) e = true) : en_dec cc pc e = true := by
  have hw : fz_wn cc ⟨⟨(cc.data.toList.drop pc).take 3⟩⟩ pc := fz_wn_of
  generalize cc.data.toList.drop pc = l at hop h hw
  cases l with
  | nil => cases hop
  | cons a0 l =>
    unfold fz_dec at h
    cases hr : Jvm.ClassFile.Decoder.instr pc ⟨⟨(a0 :: l).take 3⟩⟩ 0 with
    | error e => rw [hr] at h; cases h
    | ok v =>
      rw [hr] at h
      have h2 := fz_instr (v := v.1) (p' := v.2) hw (fun a p1 h9 => by
        have h8 := (fz_u1y ⟨⟨(a0 :: l).take 3⟩⟩ 0 (Nat.succ_pos _)).symm.trans h9
        have h10 : a0.toNat = a := congrArg Prod.fst (Except.ok.inj h8)
        rw [← h10]
        exact fz_in_ok hop) hr
      have h3 : decode cc pc = .ok (v.1, pc + v.2 - pc) := by
        show Except.bind (Jvm.ClassFile.Decoder.instr pc cc (pc + 0)) (fun z => .ok (z.1, z.2 - pc)) = _
        rw [h2]
        rfl
      rw [Nat.add_sub_cancel_left] at h3
      unfold en_dec
      rw [h3]
      exact h
noncomputable def fz_any {β : Type} (i : Nat) (P : Nat × Nat × β → Bool) (l : List (Nat × Nat × β)) : Bool := List.rec (motive := fun _ => Bool) false (fun w _ ih => bif Nat.beq w.2.1 i then (bif P w then true else ih) else ih) l
theorem fz_any_ok {β : Type} {i : Nat} {P : Nat × Nat × β → Bool} {l : List (Nat × Nat × β)} (h : fz_any i P l = true) : l.any P = true := by
  induction l with
  | nil => cases h
  | cons w l ih =>
    have h : (bif Nat.beq w.2.1 i then (bif P w then true else fz_any i P l) else fz_any i P l) = true := h
    rw [List.any_cons, Bool.or_eq_true]
    cases c : Nat.beq w.2.1 i with
    | false => rw [c] at h; exact Or.inr (ih h)
    | true =>
      rw [c] at h
      have h : (bif P w then true else fz_any i P l) = true := h
      cases c2 : P w with
      | true => exact Or.inl rfl
      | false => rw [c2] at h; exact Or.inr (ih h)
noncomputable def fz_okm (q : en_M) (pc : Nat) (e : en_I) : Bool := match e.1 with
  | .getfield i => decide (e.2.1 = pc + 3) && bif Nat.beq (e.2.2.2 % 16) 11 then fz_any i (fun w => decide (w.1 = q.2.2.2.2.2.2) && (decide (w.2.1 = i) && decide (w.2.2.1 = e.2.2.1))) en_WL else fz_any i (fun w => decide (w.1 = q.2.2.2.2.2.2) && (decide (w.2.1 = i) && (decide (w.2.2.1 = e.2.2.2 % 16) && decide (w.2.2.2.1 = e.2.2.1)))) en_GL
  | .invokevirtual i => decide (e.2.1 = pc + 3) && (fz_any i (fun w => decide (w.1 = q.2.2.2.2.2.2) && (decide (w.2.1 = i) && (decide (w.2.2.1 = e.2.2.1) && decide (w.2.2.2.1 = 0)))) en_ML && en_minf e.2.2.1 (fun y => decide (y.2.2.2.2.2.1 = 1) && (decide (y.2.2.2.2.1 + 1 = e.2.2.2 % 16) && decide (y.2.2.2.2.2.2 = e.2.2.2 / 16))))
  | .putfield i => decide (e.2.1 = pc + 3) && fz_any i (fun w => decide (w.1 = q.2.2.2.2.2.2) && (decide (w.2.1 = i) && (decide (w.2.2.1 = e.2.2.2 % 16) && (decide (w.2.2.2.1 = e.2.2.1) && (decide (w.2.2.2.2.1 = e.2.2.2 / 16 % 4) && (decide (w.2.2.2.2.2.1 = 0) || decide (q.1.name = "<init>"))))))) en_PL
  | _ => en_okm q pc e
theorem fz_okm_ok {q : en_M} {pc : Nat} {e : en_I} (h : fz_okm q pc e = true) : en_okm q pc e = true := by
  unfold fz_okm at h
  split at h
  · rename_i i he
    unfold en_okm
    rw [he]
    dsimp only
    rw [Bool.and_eq_true] at h ⊢
    refine ⟨h.1, ?_⟩
    have h2 := h.2
    cases c : Nat.beq (e.2.2.2 % 16) 11 with
    | true => rw [c] at h2; exact fz_any_ok h2
    | false => rw [c] at h2; exact fz_any_ok h2
  · rename_i i he
    unfold en_okm
    rw [he]
    dsimp only
    rw [Bool.and_eq_true, Bool.and_eq_true] at h ⊢
    exact ⟨h.1, fz_any_ok h.2.1, h.2.2⟩
  · rename_i i he
    unfold en_okm
    rw [he]
    dsimp only
    rw [Bool.and_eq_true] at h ⊢
    exact ⟨h.1, fz_any_ok h.2⟩
  · exact h
noncomputable def fz_ok (q : en_M) (pc : Nat) (e : en_I) (l : List UInt8) : Bool := bif fz_op l then (bif fz_dec pc l e then fz_okm q pc e else false) else en_ok q pc e
noncomputable def fz_f (q : en_M) (g : Nat → Option en_I) (pc : Nat) (l : List UInt8) : Bool := match g pc with
  | some e => fz_ok q pc e l
  | none => true
noncomputable def fz_walk (f : Nat → List UInt8 → Bool) (l : List UInt8) : Nat → Bool := List.rec (motive := fun _ => Nat → Bool) (fun _ => true) (fun a l ih pc => bif f pc (a :: l) then ih (pc + 1) else false) l
theorem fz_walk_ok {f : Nat → List UInt8 → Bool} : ∀ (l : List UInt8) (k : Nat), fz_walk f l k = true → ∀ i, i < l.length → f (k + i) (l.drop i) = true
  | [], k, h, i, hi => absurd hi (Nat.not_lt_zero i)
  | a :: l, k, h, i, hi => by
    have h : (bif f k (a :: l) then fz_walk f l (k + 1) else false) = true := h
    cases c : f k (a :: l) with
    | false => rw [c] at h; cases h
    | true =>
      rw [c] at h
      cases i with
      | zero => exact c
      | succ i =>
        have h2 := fz_walk_ok l (k + 1) h i (Nat.lt_of_succ_lt_succ hi)
        rw [show k + (i + 1) = k + 1 + i by omega]
        exact h2
theorem fz_at {q : en_M} {g : Nat → Option en_I} {N : Nat} (hN : Nat.ble N q.2.1.data.toList.length = true) (h : fz_walk (fz_f q g) q.2.1.data.toList 0 = true) : ∀ pc e, pc < N → g pc = some e → en_ok q pc e = true := by
  intro pc e hp he
  have hl := Nat.le_of_ble_eq_true hN
  have h1 := fz_walk_ok _ 0 h pc (by first | decide | omega)
  rw [Nat.zero_add] at h1
  unfold fz_f at h1
  rw [he] at h1
  have h1 : (bif fz_op (q.2.1.data.toList.drop pc) then (bif fz_dec pc (q.2.1.data.toList.drop pc) e then fz_okm q pc e else false) else en_ok q pc e) = true := h1
  cases c : fz_op (q.2.1.data.toList.drop pc) with
  | false => rw [c] at h1; exact h1
  | true =>
    rw [c] at h1
    have h1 : (bif fz_dec pc (q.2.1.data.toList.drop pc) e then fz_okm q pc e else false) = true := h1
    cases c2 : fz_dec pc (q.2.1.data.toList.drop pc) e with
    | false => rw [c2] at h1; cases h1
    | true =>
      rw [c2] at h1
      unfold en_ok
      rw [fz_dec_ok c c2]
      exact fz_okm_ok h1
end FZW
