/-! part 20: level 2: the interpreter, an instruction a row -/
noncomputable def rz_G (X : rz_X) (d : Nat) (M : rz_M) (pc : Nat) (loc : rz_L) (st : List Value) (w : rz_W) (nc ns : Nat) : Option rz_R := rz_go (rz_step X M (rz_ex X d)) (pc, loc, st, w, nc, ns)
section RZG
variable {X : rz_X} {d : Nat} {M : rz_M} {pc len : Nat} {loc : rz_L} {st st' r : List Value} {w : rz_W} {nc ns : Nat} {i : Instr}
theorem g_inl {pc' : Nat} {loc' : rz_L} {w' : rz_W} {nc' ns' : Nat} (h : rz_step X M (rz_ex X d) (pc, loc, st, w, nc, ns) = some (.inl (pc', loc', st', w', nc', ns'))) : rz_G X d M pc loc st w nc ns = rz_G X d M pc' loc' st' w' nc' ns' := by
  unfold rz_G
  rw [rz_go_eq, h]
theorem g_inr {z : rz_R} (h : rz_step X M (rz_ex X d) (pc, loc, st, w, nc, ns) = some (.inr z)) : rz_G X d M pc loc st w nc ns = some z := by
  unfold rz_G
  rw [rz_go_eq, h]
theorem g_none (h : rz_step X M (rz_ex X d) (pc, loc, st, w, nc, ns) = none) : rz_G X d M pc loc st w nc ns = none := by
  unfold rz_G
  rw [rz_go_eq, h]
theorem g_op (h1 : rz_look M.2.2.2.2.2.2.1 pc = none) (h2 : rz_look M.2.2.2.2.2.1 pc = some (i, len)) (h3 : rz_op i st = some st') : rz_G X d M pc loc st w nc ns = rz_G X d M (pc + len) loc st' w nc ns := by
  refine g_inl ?_
  obtain ⟨y, b, ml, rt, oc, code, tx, hd, hh⟩ := M
  simp only [rz_step] at h1 h2 ⊢
  rw [h1, h2]
  dsimp only
  rw [h3]
theorem g_br {P : Prop} [Decidable P] {o : Int} (h1 : rz_look M.2.2.2.2.2.2.1 pc = none) (h2 : rz_look M.2.2.2.2.2.1 pc = some (i, len)) (h3 : rz_op i st = none) (h4 : rz_br i st = some (decide P, o, st')) : rz_G X d M pc loc st w nc ns = if P then rz_G X d M ((pc : Int) + o).toNat loc st' w nc ns else rz_G X d M (pc + len) loc st' w nc ns := by
  obtain ⟨y, b, ml, rt, oc, code, tx, hd, hh⟩ := M
  by_cases hP : P
  · rw [if_pos hP]
    refine g_inl ?_
    simp only [rz_step] at h1 h2 ⊢
    rw [h1, h2]
    dsimp only
    rw [h3]
    dsimp only
    rw [h4]
    simp only [decide_eq_true hP, if_true]
  · rw [if_neg hP]
    refine g_inl ?_
    simp only [rz_step] at h1 h2 ⊢
    rw [h1, h2]
    dsimp only
    rw [h3]
    dsimp only
    rw [h4]
    simp only [decide_eq_false hP, Bool.false_eq_true, if_false]
theorem g_go {o : Int} (h1 : rz_look M.2.2.2.2.2.2.1 pc = none) (h2 : rz_look M.2.2.2.2.2.1 pc = some (i, len)) (h3 : rz_op i st = none) (h4 : rz_br i st = some (true, o, st')) : rz_G X d M pc loc st w nc ns = rz_G X d M ((pc : Int) + o).toNat loc st' w nc ns := by
  have := g_br (P := True) (loc := loc) (w := w) (nc := nc) (ns := ns) (X := X) (d := d) h1 h2 h3 (by simpa using h4)
  rw [this, if_pos trivial]
theorem g_ng {o : Int} (h1 : rz_look M.2.2.2.2.2.2.1 pc = none) (h2 : rz_look M.2.2.2.2.2.1 pc = some (i, len)) (h3 : rz_op i st = none) (h4 : rz_br i st = some (false, o, st')) : rz_G X d M pc loc st w nc ns = rz_G X d M (pc + len) loc st' w nc ns := by
  have := g_br (P := False) (loc := loc) (w := w) (nc := nc) (ns := ns) (X := X) (d := d) h1 h2 h3 (by simpa using h4)
  rw [this, if_neg id]
theorem g_ld {kd j : Nat} {v : Value} (h1 : rz_look M.2.2.2.2.2.2.1 pc = none) (h2 : rz_look M.2.2.2.2.2.1 pc = some (i, len)) (h3 : rz_op i st = none) (h4 : rz_br i st = none) (h5 : rz_ld i = some (kd, j)) (h6 : rz_at loc j = some v) (h7 : rz_kd v = kd) : rz_G X d M pc loc st w nc ns = rz_G X d M (pc + len) loc (v :: st) w nc ns := by
  refine g_inl ?_
  obtain ⟨y, b, ml, rt, oc, code, tx, hd, hh⟩ := M
  simp only [rz_step] at h1 h2 ⊢
  rw [h1, h2]
  dsimp only
  rw [h3]
  dsimp only
  rw [h4]
  dsimp only
  rw [h5]
  dsimp only
  rw [h6]
  dsimp only
  rw [if_pos h7]
theorem g_st {kd j : Nat} {v : Value} {loc' : rz_L} (h1 : rz_look M.2.2.2.2.2.2.1 pc = none) (h2 : rz_look M.2.2.2.2.2.1 pc = some (i, len)) (h3 : rz_op i (v :: st) = none) (h4 : rz_br i (v :: st) = none) (h5 : rz_ld i = none) (h6 : rz_st i = some (kd, j)) (h7 : rz_kd v = kd) (h8 : j + v.category ≤ loc.length) (h9 : rz_set loc j v = loc') : rz_G X d M pc loc (v :: st) w nc ns = rz_G X d M (pc + len) loc' st w nc ns := by
  subst h9
  refine g_inl ?_
  obtain ⟨y, b, ml, rt, oc, code, tx, hd, hh⟩ := M
  simp only [rz_step] at h1 h2 ⊢
  rw [h1, h2]
  dsimp only
  rw [h3]
  dsimp only
  rw [h4]
  dsimp only
  rw [h5]
  dsimp only
  rw [h6]
  dsimp only
  rw [if_pos ⟨h7, h8⟩]
theorem g_inc {j : Nat} {n : Int} {x : Int32} {loc' : rz_L} (h1 : rz_look M.2.2.2.2.2.2.1 pc = none) (h2 : rz_look M.2.2.2.2.2.1 pc = some (.iinc j n, len)) (h6 : rz_at loc j = some (.int x)) (h9 : rz_set loc j (.int (x + Int32.ofInt n)) = loc') : rz_G X d M pc loc st w nc ns = rz_G X d M (pc + len) loc' st w nc ns := by
  subst h9
  refine g_inl ?_
  obtain ⟨y, b, ml, rt, oc, code, tx, hd, hh⟩ := M
  simp only [rz_step] at h1 h2 ⊢
  rw [h1, h2]
  dsimp only [rz_op, rz_br, rz_ld, rz_st]
  rw [h6]
/-- which instructions look at the cells, make some, return or call -/
def rz_late : Instr → Bool
  | .getfield _ | .iaload | .baload | .caload | .laload | .aaload | .arraylength | .getstatic _ | .ldc _ | .ldc_w _ | .ldc2_w _ => true
  | .putfield _ | .iastore | .bastore | .castore | .lastore | .aastore => true
  | .new _ | .newarray _ | .anewarray _ | .ireturn | .lreturn | .areturn | .return_ | .invokevirtual _ | .invokestatic _ | .invokespecial _ => true
  | _ => false
theorem g_late (h1 : rz_look M.2.2.2.2.2.2.1 pc = none) (h2 : rz_look M.2.2.2.2.2.1 pc = some (i, len)) (hl : rz_late i = true) : rz_step X M (rz_ex X d) (pc, loc, st, w, nc, ns) =
    match rz_rd X M.2.2.2.2.1 w i st with
    | some st' => some (.inl (pc + len, loc, st', w, nc, ns))
    | none => match rz_wr M.2.2.2.2.1 (M.1.name == "<init>") w i st with
      | some (r, a, e) => some (.inl (pc + len, loc, r, w.set a e, nc, ns))
      | none => match rz_mk M.2.2.2.2.1 i st with
        | some (e, k, r) => some (.inl (pc + len, loc, .ref w.length :: r, w ++ [e], nc + 1, ns + k))
        | none => match rz_rt M.2.2.2.1 i st with
          | some o => some (.inr (.inl o, w, nc, ns))
          | none => match rz_ca i with
            | none => none
            | some q => match rz_go0 M.2.2.2.2.1 w q st with
              | none => none
              | some (kind, mid, as, r) => if kind = 9 then some (.inl (pc + len, loc, r, w, nc, ns)) else match rz_ex X d mid as w with
                | none => none
                | some (.inl none, w', c', s') => some (.inl (pc + len, loc, r, w', nc + c', ns + s'))
                | some (.inl (some v), w', c', s') => some (.inl (pc + len, loc, v :: r, w', nc + c', ns + s'))
                | some (.inr E, w', c', s') => match rz_hand M.2.2.2.2.2.2.2.1 pc E with
                  | some (h, j) => some (.inl (h, rz_upd (rz_clr loc j) j none, [], w', nc + c', ns + s'))
                  | none => if M.2.2.2.2.2.2.2.1.isEmpty then some (.inr (.inr E, w', nc + c', ns + s')) else none := by
  obtain ⟨y, b, ml, rt, oc, code, tx, hd, hh⟩ := M
  simp only [rz_step] at h1 h2 ⊢
  rw [h1, h2]
  cases i <;> first | (cases hl; done) | rfl
theorem g_rd (h1 : rz_look M.2.2.2.2.2.2.1 pc = none) (h2 : rz_look M.2.2.2.2.2.1 pc = some (i, len)) (hl : rz_late i = true) (h3 : rz_rd X M.2.2.2.2.1 w i st = some st') : rz_G X d M pc loc st w nc ns = rz_G X d M (pc + len) loc st' w nc ns := by
  refine g_inl ?_
  rw [g_late h1 h2 hl, h3]
theorem g_wr {a : Nat} {e : rz_E} (h1 : rz_look M.2.2.2.2.2.2.1 pc = none) (h2 : rz_look M.2.2.2.2.2.1 pc = some (i, len)) (hl : rz_late i = true) (h3 : rz_rd X M.2.2.2.2.1 w i st = none) (h4 : rz_wr M.2.2.2.2.1 (M.1.name == "<init>") w i st = some (r, a, e)) : rz_G X d M pc loc st w nc ns = rz_G X d M (pc + len) loc r (w.set a e) nc ns := by
  refine g_inl ?_
  rw [g_late h1 h2 hl, h3]
  dsimp only
  rw [h4]
/-- a field -/
theorem g_getf {ix ci k h : Nat} {q : Bool × FieldType × Nat} (h1 : rz_look M.2.2.2.2.2.2.1 pc = none) (h2 : rz_look M.2.2.2.2.2.1 pc = some (.getfield ix, len)) (h3 : rz_look (rz_flT.getD M.2.2.2.2.1 []) ix = some (ci, k, q)) : rz_G X d M pc loc (.ref h :: r) w nc ns = match w[h]? with
    | some (.inr (cj, fs)) => if cj = ci then (match fs[k]? with | some v => rz_G X d M (pc + len) loc (v :: r) w nc ns | none => none) else none
    | _ => none := by
  have no : rz_rd X M.2.2.2.2.1 w (.getfield ix) (.ref h :: r) = none → rz_G X d M pc loc (.ref h :: r) w nc ns = none := fun h9 => by
    refine g_none ?_
    rw [g_late h1 h2 rfl, h9]
    rfl
  split
  · rename_i cj fs hw
    split
    · rename_i hc
      split
      · rename_i v hv
        refine g_rd h1 h2 rfl ?_
        simp only [rz_rd, hw, h3, hc, if_true, hv]
      · rename_i hv
        refine no ?_
        simp only [rz_rd, hw, h3, hc, if_true, hv]
    · rename_i hc
      refine no ?_
      simp only [rz_rd, hw, h3, if_neg hc]
  · refine no ?_
    simp only [rz_rd]
theorem g_iald {i : Int32} {a : Nat} (h1 : rz_look M.2.2.2.2.2.2.1 pc = none) (h2 : rz_look M.2.2.2.2.2.1 pc = some (.iaload, len)) : rz_G X d M pc loc (.int i :: .ref a :: r) w nc ns = match w[a]? with
    | some (.inl (.int, n, .inl f)) => if i < 0 ∨ n ≤ i.toNatClampNeg then none else rz_G X d M (pc + len) loc (.int (f i.toNatClampNeg) :: r) w nc ns
    | _ => none := by
  have no : rz_rd X M.2.2.2.2.1 w (.iaload) (.int i :: .ref a :: r) = none → rz_G X d M pc loc (.int i :: .ref a :: r) w nc ns = none := fun h9 => by
    refine g_none ?_
    rw [g_late h1 h2 rfl, h9]
    rfl
  split
  · rename_i hw
    split
    · rename_i hi
      refine no ?_
      simp only [rz_rd, hw, if_pos hi]
    · rename_i hi
      refine g_rd h1 h2 rfl ?_
      simp only [rz_rd, hw, if_neg hi]
  · rename_i hw
    refine no ?_
    simp only [rz_rd]
    try (split
         · rename_i hw2; exact (hw _ _ hw2).elim
         · rfl)
theorem g_zald {i : Int32} {a : Nat} (h1 : rz_look M.2.2.2.2.2.2.1 pc = none) (h2 : rz_look M.2.2.2.2.2.1 pc = some (.baload, len)) : rz_G X d M pc loc (.int i :: .ref a :: r) w nc ns = match w[a]? with
    | some (.inl (.boolean, n, .inl f)) => if i < 0 ∨ n ≤ i.toNatClampNeg then none else rz_G X d M (pc + len) loc (.int (f i.toNatClampNeg) :: r) w nc ns
    | _ => none := by
  have no : rz_rd X M.2.2.2.2.1 w (.baload) (.int i :: .ref a :: r) = none → rz_G X d M pc loc (.int i :: .ref a :: r) w nc ns = none := fun h9 => by
    refine g_none ?_
    rw [g_late h1 h2 rfl, h9]
    rfl
  split
  · rename_i hw
    split
    · rename_i hi
      refine no ?_
      simp only [rz_rd, hw, if_pos hi]
    · rename_i hi
      refine g_rd h1 h2 rfl ?_
      simp only [rz_rd, hw, if_neg hi]
  · rename_i hw
    refine no ?_
    simp only [rz_rd]
    try (split
         · rename_i hw2; exact (hw _ _ hw2).elim
         · rfl)
theorem g_cald {i : Int32} {a : Nat} (h1 : rz_look M.2.2.2.2.2.2.1 pc = none) (h2 : rz_look M.2.2.2.2.2.1 pc = some (.caload, len)) : rz_G X d M pc loc (.int i :: .ref a :: r) w nc ns = match w[a]? with
    | some (.inl (.char, n, .inl f)) => if i < 0 ∨ n ≤ i.toNatClampNeg then none else rz_G X d M (pc + len) loc (.int (f i.toNatClampNeg) :: r) w nc ns
    | _ => none := by
  have no : rz_rd X M.2.2.2.2.1 w (.caload) (.int i :: .ref a :: r) = none → rz_G X d M pc loc (.int i :: .ref a :: r) w nc ns = none := fun h9 => by
    refine g_none ?_
    rw [g_late h1 h2 rfl, h9]
    rfl
  split
  · rename_i hw
    split
    · rename_i hi
      refine no ?_
      simp only [rz_rd, hw, if_pos hi]
    · rename_i hi
      refine g_rd h1 h2 rfl ?_
      simp only [rz_rd, hw, if_neg hi]
  · rename_i hw
    refine no ?_
    simp only [rz_rd]
    try (split
         · rename_i hw2; exact (hw _ _ hw2).elim
         · rfl)
theorem g_lald {i : Int32} {a : Nat} (h1 : rz_look M.2.2.2.2.2.2.1 pc = none) (h2 : rz_look M.2.2.2.2.2.1 pc = some (.laload, len)) : rz_G X d M pc loc (.int i :: .ref a :: r) w nc ns = match w[a]? with
    | some (.inl (.long, n, .inr (.inl f))) => if i < 0 ∨ n ≤ i.toNatClampNeg then none else rz_G X d M (pc + len) loc (.long (f i.toNatClampNeg) :: r) w nc ns
    | _ => none := by
  have no : rz_rd X M.2.2.2.2.1 w (.laload) (.int i :: .ref a :: r) = none → rz_G X d M pc loc (.int i :: .ref a :: r) w nc ns = none := fun h9 => by
    refine g_none ?_
    rw [g_late h1 h2 rfl, h9]
    rfl
  split
  · rename_i hw
    split
    · rename_i hi
      refine no ?_
      simp only [rz_rd, hw, if_pos hi]
    · rename_i hi
      refine g_rd h1 h2 rfl ?_
      simp only [rz_rd, hw, if_neg hi]
  · rename_i hw
    refine no ?_
    simp only [rz_rd]
    try (split
         · rename_i hw2; exact (hw _ _ hw2).elim
         · rfl)
theorem g_aald {i : Int32} {a : Nat} (h1 : rz_look M.2.2.2.2.2.2.1 pc = none) (h2 : rz_look M.2.2.2.2.2.1 pc = some (.aaload, len)) : rz_G X d M pc loc (.int i :: .ref a :: r) w nc ns = match w[a]? with
    | some (.inl (.object _, n, .inr (.inr (.inr (.inr f))))) => if i < 0 ∨ n ≤ i.toNatClampNeg then none else rz_G X d M (pc + len) loc (va_rf (f i.toNatClampNeg) :: r) w nc ns
    | _ => none := by
  have no : rz_rd X M.2.2.2.2.1 w (.aaload) (.int i :: .ref a :: r) = none → rz_G X d M pc loc (.int i :: .ref a :: r) w nc ns = none := fun h9 => by
    refine g_none ?_
    rw [g_late h1 h2 rfl, h9]
    rfl
  split
  · rename_i hw
    split
    · rename_i hi
      refine no ?_
      simp only [rz_rd, hw, if_pos hi]
    · rename_i hi
      refine g_rd h1 h2 rfl ?_
      simp only [rz_rd, hw, if_neg hi]
  · rename_i hw
    refine no ?_
    simp only [rz_rd]
    try (split
         · rename_i hw2; exact (hw _ _ hw2).elim
         · rfl)
theorem g_xald {i : Int32} {a : Nat} (h1 : rz_look M.2.2.2.2.2.2.1 pc = none) (h2 : rz_look M.2.2.2.2.2.1 pc = some (.iaload, len)) : rz_G X d M pc loc (.int i :: .retAddr a :: r) w nc ns = match X a with
    | some (n, f) => if i < 0 ∨ n ≤ i.toNatClampNeg then none else rz_G X d M (pc + len) loc (.int (f i.toNatClampNeg) :: r) w nc ns
    | none => none := by
  have no : rz_rd X M.2.2.2.2.1 w (.iaload) (.int i :: .retAddr a :: r) = none → rz_G X d M pc loc (.int i :: .retAddr a :: r) w nc ns = none := fun h9 => by
    refine g_none ?_
    rw [g_late h1 h2 rfl, h9]
    rfl
  split
  · rename_i hw
    split
    · rename_i hi
      refine no ?_
      simp only [rz_rd, hw, if_pos hi]
    · rename_i hi
      refine g_rd h1 h2 rfl ?_
      simp only [rz_rd, hw, if_neg hi]
  · rename_i hw
    refine no ?_
    simp only [rz_rd, hw]
theorem g_alen {a : Nat} (h1 : rz_look M.2.2.2.2.2.2.1 pc = none) (h2 : rz_look M.2.2.2.2.2.1 pc = some (.arraylength, len)) : rz_G X d M pc loc (.ref a :: r) w nc ns = match w[a]? with
    | some (.inl (_, n, _)) => rz_G X d M (pc + len) loc (.int (Int32.ofNat n) :: r) w nc ns
    | _ => none := by
  have no : rz_rd X M.2.2.2.2.1 w (.arraylength) (.ref a :: r) = none → rz_G X d M pc loc (.ref a :: r) w nc ns = none := fun h9 => by
    refine g_none ?_
    rw [g_late h1 h2 rfl, h9]
    rfl
  split
  · rename_i hw
    refine g_rd h1 h2 rfl ?_
    simp only [rz_rd, hw]
  · rename_i hw
    refine no ?_
    simp only [rz_rd]
    try (split
         · rename_i hw2; exact (hw _ _ _ hw2).elim
         · rfl)
theorem g_xlen {a : Nat} (h1 : rz_look M.2.2.2.2.2.2.1 pc = none) (h2 : rz_look M.2.2.2.2.2.1 pc = some (.arraylength, len)) : rz_G X d M pc loc (.retAddr a :: r) w nc ns = match X a with
    | some (n, _) => rz_G X d M (pc + len) loc (.int (Int32.ofNat n) :: r) w nc ns
    | none => none := by
  have no : rz_rd X M.2.2.2.2.1 w (.arraylength) (.retAddr a :: r) = none → rz_G X d M pc loc (.retAddr a :: r) w nc ns = none := fun h9 => by
    refine g_none ?_
    rw [g_late h1 h2 rfl, h9]
    rfl
  split
  · rename_i hw
    refine g_rd h1 h2 rfl ?_
    simp only [rz_rd, hw]
  · rename_i hw
    refine no ?_
    simp only [rz_rd, hw]
theorem g_gets {ix e0 : Nat} {q : Nat} (h1 : rz_look M.2.2.2.2.2.2.1 pc = none) (h2 : rz_look M.2.2.2.2.2.1 pc = some (.getstatic ix, len)) (h3 : rz_look (rz_sfT.getD M.2.2.2.2.1 []) ix = some (e0, q)) : rz_G X d M pc loc r w nc ns = rz_G X d M (pc + len) loc (.retAddr e0 :: r) w nc ns := g_rd h1 h2 rfl (by simp only [rz_rd, h3])
theorem g_ldc {ix : Nat} {v : Int32} {q : Nat} (h1 : rz_look M.2.2.2.2.2.2.1 pc = none) (h2 : rz_look M.2.2.2.2.2.1 pc = some (.ldc ix, len)) (h3 : rz_look (rz_kkT.getD M.2.2.2.2.1 []) ix = some (.int v, q)) : rz_G X d M pc loc r w nc ns = rz_G X d M (pc + len) loc (.int v :: r) w nc ns := g_rd h1 h2 rfl (by simp only [rz_rd, h3])
theorem g_ldcw {ix : Nat} {v : Int32} {q : Nat} (h1 : rz_look M.2.2.2.2.2.2.1 pc = none) (h2 : rz_look M.2.2.2.2.2.1 pc = some (.ldc_w ix, len)) (h3 : rz_look (rz_kkT.getD M.2.2.2.2.1 []) ix = some (.int v, q)) : rz_G X d M pc loc r w nc ns = rz_G X d M (pc + len) loc (.int v :: r) w nc ns := g_rd h1 h2 rfl (by simp only [rz_rd, h3])
theorem g_ldc2 {ix : Nat} {v : Int64} {q : Nat} (h1 : rz_look M.2.2.2.2.2.2.1 pc = none) (h2 : rz_look M.2.2.2.2.2.1 pc = some (.ldc2_w ix, len)) (h3 : rz_look (rz_kkT.getD M.2.2.2.2.1 []) ix = some (.long v, q)) : rz_G X d M pc loc r w nc ns = rz_G X d M (pc + len) loc (.long v :: r) w nc ns := g_rd h1 h2 rfl (by simp only [rz_rd, h3])
theorem g_noW (h1 : rz_look M.2.2.2.2.2.2.1 pc = none) (h2 : rz_look M.2.2.2.2.2.1 pc = some (i, len)) (hl : rz_late i = true) (h3 : rz_rd X M.2.2.2.2.1 w i st = none) (h4 : rz_wr M.2.2.2.2.1 (M.1.name == "<init>") w i st = none) (h5 : rz_mk M.2.2.2.2.1 i st = none) (h6 : rz_rt M.2.2.2.1 i st = none) (h7 : rz_ca i = none) : rz_G X d M pc loc st w nc ns = none := by
  refine g_none ?_
  rw [g_late h1 h2 hl, h3]
  dsimp only
  rw [h4]
  dsimp only
  rw [h5]
  dsimp only
  rw [h6]
  dsimp only
  rw [h7]
theorem g_putf {ix ci k h : Nat} {v : Value} {fin : Bool} {ty : FieldType} {q : Nat} (h1 : rz_look M.2.2.2.2.2.2.1 pc = none) (h2 : rz_look M.2.2.2.2.2.1 pc = some (.putfield ix, len)) (h3 : rz_look (rz_flT.getD M.2.2.2.2.1 []) ix = some (ci, k, fin, ty, q)) (h4 : fin = false ∨ ((M.1.name == "<init>") = true ∧ ci = M.2.2.2.2.1)) : rz_G X d M pc loc (v :: .ref h :: r) w nc ns = match w[h]? with
    | some (.inr (cj, fs)) => if cj = ci ∧ narrow ty v = v ∧ fits ty v = true ∧ k < fs.length then rz_G X d M (pc + len) loc r (w.set h (.inr (cj, fs.set k v))) nc ns else none
    | _ => none := by
  have no : rz_wr M.2.2.2.2.1 (M.1.name == "<init>") w (.putfield ix) (v :: .ref h :: r) = none → rz_G X d M pc loc (v :: .ref h :: r) w nc ns = none := fun h9 => g_noW h1 h2 rfl rfl h9 rfl rfl rfl
  split
  · rename_i cj fs hw
    split
    · rename_i hc
      refine g_wr h1 h2 rfl rfl ?_
      simp only [rz_wr, hw, h3]
      rw [if_pos ⟨hc.1, hc.2.1, hc.2.2.1, hc.2.2.2, by rw [hc.1]; exact h4⟩]
    · rename_i hc
      refine no ?_
      simp only [rz_wr, hw, h3]
      rw [if_neg (fun q => hc ⟨q.1, q.2.1, q.2.2.1, q.2.2.2.1⟩)]
  · rename_i hw
    refine no ?_
    simp only [rz_wr]
    try (split
         · rename_i hw2; exact (hw _ _ hw2).elim
         · rfl)
theorem g_iast {i : Int32} {a : Nat} {x : Int32} (h1 : rz_look M.2.2.2.2.2.2.1 pc = none) (h2 : rz_look M.2.2.2.2.2.1 pc = some (.iastore, len)) : rz_G X d M pc loc (.int x :: .int i :: .ref a :: r) w nc ns = match w[a]? with
    | some (.inl (.int, n, .inl f)) => if i < 0 ∨ n ≤ i.toNatClampNeg then none else rz_G X d M (pc + len) loc r (w.set a (.inl (.int, n, .inl (upd f i.toNatClampNeg x)))) nc ns
    | _ => none := by
  have no : rz_wr M.2.2.2.2.1 (M.1.name == "<init>") w (.iastore) (.int x :: .int i :: .ref a :: r) = none → rz_G X d M pc loc (.int x :: .int i :: .ref a :: r) w nc ns = none := fun h9 => g_noW h1 h2 rfl rfl h9 rfl rfl rfl
  split
  · rename_i hw
    split
    · rename_i hi
      refine no ?_
      simp only [rz_wr, hw, if_pos hi]
    · rename_i hi
      refine g_wr h1 h2 rfl rfl ?_
      simp only [rz_wr, hw, if_neg hi]
  · rename_i hw
    refine no ?_
    simp only [rz_wr]
    try (split
         · rename_i hw2; exact (hw _ _ hw2).elim
         · rfl)
theorem g_zast {i : Int32} {a : Nat} {x : Int32} (h1 : rz_look M.2.2.2.2.2.2.1 pc = none) (h2 : rz_look M.2.2.2.2.2.1 pc = some (.bastore, len)) : rz_G X d M pc loc (.int x :: .int i :: .ref a :: r) w nc ns = match w[a]? with
    | some (.inl (.boolean, n, .inl f)) => if i < 0 ∨ n ≤ i.toNatClampNeg then none else rz_G X d M (pc + len) loc r (w.set a (.inl (.boolean, n, .inl (upd f i.toNatClampNeg (vp_nar .boolean x))))) nc ns
    | _ => none := by
  have no : rz_wr M.2.2.2.2.1 (M.1.name == "<init>") w (.bastore) (.int x :: .int i :: .ref a :: r) = none → rz_G X d M pc loc (.int x :: .int i :: .ref a :: r) w nc ns = none := fun h9 => g_noW h1 h2 rfl rfl h9 rfl rfl rfl
  split
  · rename_i hw
    split
    · rename_i hi
      refine no ?_
      simp only [rz_wr, hw, if_pos hi]
    · rename_i hi
      refine g_wr h1 h2 rfl rfl ?_
      simp only [rz_wr, hw, if_neg hi]
  · rename_i hw
    refine no ?_
    simp only [rz_wr]
    try (split
         · rename_i hw2; exact (hw _ _ hw2).elim
         · rfl)
theorem g_cast {i : Int32} {a : Nat} {x : Int32} (h1 : rz_look M.2.2.2.2.2.2.1 pc = none) (h2 : rz_look M.2.2.2.2.2.1 pc = some (.castore, len)) : rz_G X d M pc loc (.int x :: .int i :: .ref a :: r) w nc ns = match w[a]? with
    | some (.inl (.char, n, .inl f)) => if i < 0 ∨ n ≤ i.toNatClampNeg then none else rz_G X d M (pc + len) loc r (w.set a (.inl (.char, n, .inl (upd f i.toNatClampNeg (vp_nar .char x))))) nc ns
    | _ => none := by
  have no : rz_wr M.2.2.2.2.1 (M.1.name == "<init>") w (.castore) (.int x :: .int i :: .ref a :: r) = none → rz_G X d M pc loc (.int x :: .int i :: .ref a :: r) w nc ns = none := fun h9 => g_noW h1 h2 rfl rfl h9 rfl rfl rfl
  split
  · rename_i hw
    split
    · rename_i hi
      refine no ?_
      simp only [rz_wr, hw, if_pos hi]
    · rename_i hi
      refine g_wr h1 h2 rfl rfl ?_
      simp only [rz_wr, hw, if_neg hi]
  · rename_i hw
    refine no ?_
    simp only [rz_wr]
    try (split
         · rename_i hw2; exact (hw _ _ hw2).elim
         · rfl)
theorem g_last {i : Int32} {a : Nat} {x : Int64} (h1 : rz_look M.2.2.2.2.2.2.1 pc = none) (h2 : rz_look M.2.2.2.2.2.1 pc = some (.lastore, len)) : rz_G X d M pc loc (.long x :: .int i :: .ref a :: r) w nc ns = match w[a]? with
    | some (.inl (.long, n, .inr (.inl f))) => if i < 0 ∨ n ≤ i.toNatClampNeg then none else rz_G X d M (pc + len) loc r (w.set a (.inl (.long, n, .inr (.inl (vp_updL f i.toNatClampNeg x))))) nc ns
    | _ => none := by
  have no : rz_wr M.2.2.2.2.1 (M.1.name == "<init>") w (.lastore) (.long x :: .int i :: .ref a :: r) = none → rz_G X d M pc loc (.long x :: .int i :: .ref a :: r) w nc ns = none := fun h9 => g_noW h1 h2 rfl rfl h9 rfl rfl rfl
  split
  · rename_i hw
    split
    · rename_i hi
      refine no ?_
      simp only [rz_wr, hw, if_pos hi]
    · rename_i hi
      refine g_wr h1 h2 rfl rfl ?_
      simp only [rz_wr, hw, if_neg hi]
  · rename_i hw
    refine no ?_
    simp only [rz_wr]
    try (split
         · rename_i hw2; exact (hw _ _ hw2).elim
         · rfl)
theorem g_aast {i : Int32} {a v n ci : Nat} {C : String} {f : Nat → Option Nat} {fs : List Value} (h1 : rz_look M.2.2.2.2.2.2.1 pc = none) (h2 : rz_look M.2.2.2.2.2.1 pc = some (.aastore, len)) (hw : w[a]? = some (.inl (.object C, n, .inr (.inr (.inr (.inr f)))))) (hv : w[v]? = some (.inr (ci, fs))) (hi : ¬ (i < 0 ∨ n ≤ i.toNatClampNeg)) (hc : rz_on[ci]? = some C) : rz_G X d M pc loc (.ref v :: .int i :: .ref a :: r) w nc ns = rz_G X d M (pc + len) loc r (w.set a (.inl (.object C, n, .inr (.inr (.inr (.inr (va_up f i.toNatClampNeg (some v)))))))) nc ns := by
  refine g_wr h1 h2 rfl rfl ?_
  simp only [rz_wr, hw, hv]
  rw [if_neg (fun q => q.elim hi (fun q => q hc))]
theorem g_aastN {i : Int32} {a n : Nat} {C : String} {f : Nat → Option Nat} (h1 : rz_look M.2.2.2.2.2.2.1 pc = none) (h2 : rz_look M.2.2.2.2.2.1 pc = some (.aastore, len)) (hw : w[a]? = some (.inl (.object C, n, .inr (.inr (.inr (.inr f)))))) (hi : ¬ (i < 0 ∨ n ≤ i.toNatClampNeg)) : rz_G X d M pc loc (.null :: .int i :: .ref a :: r) w nc ns = rz_G X d M (pc + len) loc r (w.set a (.inl (.object C, n, .inr (.inr (.inr (.inr (va_up f i.toNatClampNeg none))))))) nc ns := by
  refine g_wr h1 h2 rfl rfl ?_
  simp only [rz_wr, hw]
  rw [if_neg hi]
theorem g_mk {e : rz_E} {k : Nat} (h1 : rz_look M.2.2.2.2.2.2.1 pc = none) (h2 : rz_look M.2.2.2.2.2.1 pc = some (i, len)) (hl : rz_late i = true) (h3 : rz_rd X M.2.2.2.2.1 w i st = none) (h4 : rz_wr M.2.2.2.2.1 (M.1.name == "<init>") w i st = none) (h5 : rz_mk M.2.2.2.2.1 i st = some (e, k, r)) : rz_G X d M pc loc st w nc ns = rz_G X d M (pc + len) loc (.ref w.length :: r) (w ++ [e]) (nc + 1) (ns + k) := by
  refine g_inl ?_
  rw [g_late h1 h2 hl, h3]
  dsimp only
  rw [h4]
  dsimp only
  rw [h5]
theorem g_rt {o : Option Value} (h1 : rz_look M.2.2.2.2.2.2.1 pc = none) (h2 : rz_look M.2.2.2.2.2.1 pc = some (i, len)) (hl : rz_late i = true) (h3 : rz_rd X M.2.2.2.2.1 w i st = none) (h4 : rz_wr M.2.2.2.2.1 (M.1.name == "<init>") w i st = none) (h5 : rz_mk M.2.2.2.2.1 i st = none) (h6 : rz_rt M.2.2.2.1 i st = some o) : rz_G X d M pc loc st w nc ns = some (.inl o, w, nc, ns) := by
  refine g_inr ?_
  rw [g_late h1 h2 hl, h3]
  dsimp only
  rw [h4]
  dsimp only
  rw [h5]
  dsimp only
  rw [h6]
/-- what goes on behind a call: o is its answer -/
noncomputable def rz_cont (X : rz_X) (d : Nat) (M : rz_M) (pc len : Nat) (loc : rz_L) (r : List Value) (nc ns : Nat) : Option rz_R → Option rz_R
  | none => none
  | some (.inl none, w', c', s') => rz_G X d M (pc + len) loc r w' (nc + c') (ns + s')
  | some (.inl (some v), w', c', s') => rz_G X d M (pc + len) loc (v :: r) w' (nc + c') (ns + s')
  | some (.inr E, w', c', s') => match rz_hand M.2.2.2.2.2.2.2.1 pc E with
    | some (h, j) => rz_G X d M h (rz_upd (rz_clr loc j) j none) [] w' (nc + c') (ns + s')
    | none => if M.2.2.2.2.2.2.2.1.isEmpty then some (.inr E, w', nc + c', ns + s') else none
theorem g_call {q : Nat × Nat} {kind mid : Nat} {as : List Value} (h1 : rz_look M.2.2.2.2.2.2.1 pc = none) (h2 : rz_look M.2.2.2.2.2.1 pc = some (i, len)) (hl : rz_late i = true) (h3 : rz_rd X M.2.2.2.2.1 w i st = none) (h4 : rz_wr M.2.2.2.2.1 (M.1.name == "<init>") w i st = none) (h5 : rz_mk M.2.2.2.2.1 i st = none) (h6 : rz_rt M.2.2.2.1 i st = none) (h7 : rz_ca i = some q) (h8 : rz_go0 M.2.2.2.2.1 w q st = some (kind, mid, as, r)) (h9 : kind ≠ 9) : rz_G X d M pc loc st w nc ns = rz_cont X d M pc len loc r nc ns (rz_ex X d mid as w) := by
  have hs := g_late (X := X) (d := d) (loc := loc) (st := st) (w := w) (nc := nc) (ns := ns) h1 h2 hl
  rw [h3] at hs
  dsimp only at hs
  rw [h4] at hs
  dsimp only at hs
  rw [h5] at hs
  dsimp only at hs
  rw [h6] at hs
  dsimp only at hs
  rw [h7] at hs
  dsimp only at hs
  rw [h8] at hs
  dsimp only at hs
  rw [if_neg h9] at hs
  cases hx : rz_ex X d mid as w with
  | none => rw [hx] at hs; exact g_none hs
  | some z =>
    obtain ⟨o, w', c', s'⟩ := z
    rw [hx] at hs
    rcases o with (_ | v) | E
    · exact g_inl hs
    · exact g_inl hs
    · dsimp only at hs
      show _ = (match rz_hand M.2.2.2.2.2.2.2.1 pc E with
        | some (h, j) => rz_G X d M h (rz_upd (rz_clr loc j) j none) [] w' (nc + c') (ns + s')
        | none => if M.2.2.2.2.2.2.2.1.isEmpty then some (.inr E, w', nc + c', ns + s') else none)
      cases hh : rz_hand M.2.2.2.2.2.2.2.1 pc E with
      | some z =>
        obtain ⟨h0, j⟩ := z
        rw [hh] at hs
        exact g_inl hs
      | none =>
        rw [hh] at hs
        dsimp only at hs ⊢
        split at hs
        · rename_i he
          rw [if_pos he]
          exact g_inr hs
        · rename_i he
          rw [if_neg he]
          exact g_none hs
/-- Object's constructor -/
theorem g_obj {q : Nat × Nat} {mid : Nat} {as : List Value} (h1 : rz_look M.2.2.2.2.2.2.1 pc = none) (h2 : rz_look M.2.2.2.2.2.1 pc = some (i, len)) (hl : rz_late i = true) (h3 : rz_rd X M.2.2.2.2.1 w i st = none) (h4 : rz_wr M.2.2.2.2.1 (M.1.name == "<init>") w i st = none) (h5 : rz_mk M.2.2.2.2.1 i st = none) (h6 : rz_rt M.2.2.2.1 i st = none) (h7 : rz_ca i = some q) (h8 : rz_go0 M.2.2.2.2.1 w q st = some (9, mid, as, r)) : rz_G X d M pc loc st w nc ns = rz_G X d M (pc + len) loc r w nc ns := by
  refine g_inl ?_
  rw [g_late h1 h2 hl, h3]
  dsimp only
  rw [h4]
  dsimp only
  rw [h5]
  dsimp only
  rw [h6]
  dsimp only
  rw [h7]
  dsimp only
  rw [h8]
  rfl
theorem g_thr {E : String} (h1 : rz_look M.2.2.2.2.2.2.1 pc = some E) : rz_G X d M pc loc [] w nc ns = some (.inr E, w, nc + 1, ns + 6) := by
  refine g_inr ?_
  obtain ⟨y, b, ml, rt, oc, code, tx, hd, hh⟩ := M
  simp only [rz_step] at h1 ⊢
  rw [h1]
theorem rz_ex_G {mid : Nat} {as : List Value} (hM : rz_ms[mid]? = some M) (hl : (rz_lay as).length ≤ M.2.2.1) : rz_ex X (d + 1) mid as w = rz_G X d M 0 (rz_pad M.2.2.1 (rz_lay as)) [] w 0 0 := by
  simp only [rz_ex, hM]
  rw [if_pos hl]
  rfl
end RZG
