/-! part 04: an interpreter over numbers of cells. A reference is the place of its cell in the list of cells; a 'return address' stands for an array that nobody writes; what it answers, the machine answers (part 05). -/
abbrev rz_E : Type := (FieldType × vp_A) ⊕ (Nat × List Value)
abbrev rz_W : Type := List rz_E
abbrev rz_L : Type := List (Option Value)
abbrev rz_O : Type := Option Value ⊕ String
abbrev rz_R : Type := rz_O × rz_W × Nat × Nat
abbrev rz_C : Type := Nat × rz_L × List Value × rz_W × Nat × Nat
abbrev rz_X : Type := Nat → Option (Nat × (Nat → Int32))
def rz_look {α : Type} : List (Nat × α) → Nat → Option α
  | [], _ => none
  | q :: t, k => bif Nat.beq q.1 k then some q.2 else rz_look t k
def rz_at : rz_L → Nat → Option Value
  | [], _ => none
  | v :: _, 0 => v
  | _ :: t, n + 1 => rz_at t n
def rz_upd : rz_L → Nat → Option Value → rz_L
  | [], _, _ => []
  | _ :: t, 0, v => v :: t
  | u :: t, n + 1, v => u :: rz_upd t n v
def rz_clr (l : rz_L) : Nat → rz_L
  | 0 => l
  | j + 1 => match rz_at l j with
    | some v => if v.category = 2 then rz_upd l j none else l
    | none => l
def rz_set (l : rz_L) (i : Nat) (v : Value) : rz_L :=
  if v.category = 2 then rz_upd (rz_upd (rz_clr l i) i (some v)) (i + 1) none else rz_upd (rz_clr l i) i (some v)
def rz_lay : List Value → rz_L
  | [] => []
  | v :: vs => if v.category = 2 then some v :: none :: rz_lay vs else some v :: rz_lay vs
def rz_pad : Nat → rz_L → rz_L
  | 0, l => l
  | n + 1, [] => none :: rz_pad n []
  | n + 1, v :: t => v :: rz_pad n t
/-- what only the stack and the instruction decide -/
def rz_op : Instr → List Value → Option (List Value)
  | .iconst n, r => some (.int (Int32.ofInt n) :: r)
  | .bipush n, r => some (.int (Int8.ofInt n).toInt32 :: r)
  | .sipush n, r => some (.int (Int16.ofInt n).toInt32 :: r)
  | .lconst n, r => some (.long (Int64.ofNat (n : Nat)) :: r)
  | .aconst_null, r => some (.null :: r)
  | .iadd, .int y :: .int x :: r => some (.int (x + y) :: r)
  | .isub, .int y :: .int x :: r => some (.int (x - y) :: r)
  | .imul, .int y :: .int x :: r => some (.int (x * y) :: r)
  | .iand, .int y :: .int x :: r => some (.int (x &&& y) :: r)
  | .ixor, .int y :: .int x :: r => some (.int (x ^^^ y) :: r)
  | .idiv, .int y :: .int x :: r => if y = 0 then none else some (.int (x / y) :: r)
  | .irem, .int y :: .int x :: r => if y = 0 then none else some (.int (x - x / y * y) :: r)
  | .ineg, .int x :: r => some (.int (-x) :: r)
  | .ladd, .long y :: .long x :: r => some (.long (x + y) :: r)
  | .lsub, .long y :: .long x :: r => some (.long (x - y) :: r)
  | .lmul, .long y :: .long x :: r => some (.long (x * y) :: r)
  | .lxor, .long y :: .long x :: r => some (.long (x ^^^ y) :: r)
  | .ldiv, .long y :: .long x :: r => if y = 0 then none else some (.long (x / y) :: r)
  | .lrem, .long y :: .long x :: r => if y = 0 then none else some (.long (x - x / y * y) :: r)
  | .lneg, .long x :: r => some (.long (-x) :: r)
  | .lcmp, .long y :: .long x :: r => some (.int (lg_cmp x y) :: r)
  | .i2l, .int x :: r => some (.long x.toInt64 :: r)
  | .l2i, .long x :: r => some (.int x.toInt32 :: r)
  | .i2c, .int x :: r => some (.int (x.toUInt32 % 65536).toInt32 :: r)
  | .dup, v :: r => if v.category = 1 then some (v :: v :: r) else none
  | .pop, v :: r => if v.category = 1 then some r else none
  | .dup2, a :: b :: r => if a.category = 1 ∧ b.category = 1 then some (a :: b :: a :: b :: r) else none
  | _, _ => none
/-- branches: whether it is taken, how far it goes, the stack behind it -/
def rz_br : Instr → List Value → Option (Bool × Int × List Value)
  | .ifCond .eq o, .int x :: r => some (decide (x = 0), o, r)
  | .ifCond .ne o, .int x :: r => some (decide (¬ x = 0), o, r)
  | .ifCond .lt o, .int x :: r => some (decide (x < 0), o, r)
  | .ifCond .ge o, .int x :: r => some (decide (0 ≤ x), o, r)
  | .ifCond .gt o, .int x :: r => some (decide (0 < x), o, r)
  | .ifCond .le o, .int x :: r => some (decide (x ≤ 0), o, r)
  | .if_icmp .eq o, .int y :: .int x :: r => some (decide (x = y), o, r)
  | .if_icmp .ne o, .int y :: .int x :: r => some (decide (¬ x = y), o, r)
  | .if_icmp .lt o, .int y :: .int x :: r => some (decide (x < y), o, r)
  | .if_icmp .ge o, .int y :: .int x :: r => some (decide (y ≤ x), o, r)
  | .if_icmp .gt o, .int y :: .int x :: r => some (decide (y < x), o, r)
  | .if_icmp .le o, .int y :: .int x :: r => some (decide (x ≤ y), o, r)
  | .ifnull o, .null :: r => some (true, o, r)
  | .ifnull o, .ref _ :: r => some (false, o, r)
  | .ifnonnull o, .null :: r => some (false, o, r)
  | .ifnonnull o, .ref _ :: r => some (true, o, r)
  | .goto o, r => some (true, o, r)
  | _, _ => none
def rz_kd : Value → Nat
  | .int _ => 0
  | .long _ => 1
  | .ref _ => 2
  | .null => 2
  | .retAddr _ => 2
  | _ => 3
def rz_ld : Instr → Option (Nat × Nat)
  | .iload_n k => some (0, (k : Nat))
  | .iload k => some (0, k)
  | .lload_n k => some (1, (k : Nat))
  | .lload k => some (1, k)
  | .aload_n k => some (2, (k : Nat))
  | .aload k => some (2, k)
  | _ => none
def rz_st : Instr → Option (Nat × Nat)
  | .istore_n k => some (0, (k : Nat))
  | .istore k => some (0, k)
  | .lstore_n k => some (1, (k : Nat))
  | .lstore k => some (1, k)
  | .astore_n k => some (2, (k : Nat))
  | .astore k => some (2, k)
  | _ => none
/-- an index outside of a row -/
def rz_out (i : Int32) (n : Nat) : Prop := i < 0 ∨ n ≤ i.toNatClampNeg
/-- reads: the value and the rest of the stack -/
noncomputable def rz_rd (X : rz_X) (oc : Nat) (w : rz_W) : Instr → List Value → Option (List Value)
  | .getfield ix, .ref h :: r => match w[h]? with
    | some (.inr (ci, fs)) => match rz_look (rz_flT.getD oc []) ix with
      | some (cj, k, _) => if ci = cj then (match fs[k]? with | some v => some (v :: r) | none => none) else none
      | none => none
    | _ => none
  | .iaload, .int i :: .ref a :: r => match w[a]? with
      | some (.inl (.int, n, .inl f)) => if i < 0 ∨ n ≤ i.toNatClampNeg then none else some (.int (f i.toNatClampNeg) :: r)
      | _ => none
  | .iaload, .int i :: .retAddr e :: r => match X e with
      | some (n, f) => if i < 0 ∨ n ≤ i.toNatClampNeg then none else some (.int (f i.toNatClampNeg) :: r)
      | none => none
  | .baload, .int i :: .ref a :: r => match w[a]? with
      | some (.inl (.boolean, n, .inl f)) => if i < 0 ∨ n ≤ i.toNatClampNeg then none else some (.int (f i.toNatClampNeg) :: r)
      | _ => none
  | .caload, .int i :: .ref a :: r => match w[a]? with
      | some (.inl (.char, n, .inl f)) => if i < 0 ∨ n ≤ i.toNatClampNeg then none else some (.int (f i.toNatClampNeg) :: r)
      | _ => none
  | .laload, .int i :: .ref a :: r => match w[a]? with
      | some (.inl (.long, n, .inr (.inl f))) => if i < 0 ∨ n ≤ i.toNatClampNeg then none else some (.long (f i.toNatClampNeg) :: r)
      | _ => none
  | .aaload, .int i :: .ref a :: r => match w[a]? with
      | some (.inl (.object _, n, .inr (.inr (.inr (.inr f))))) => if i < 0 ∨ n ≤ i.toNatClampNeg then none else some (va_rf (f i.toNatClampNeg) :: r)
      | _ => none
  | .arraylength, .ref a :: r => match w[a]? with
      | some (.inl (_, n, _)) => some (.int (Int32.ofNat n) :: r)
      | _ => none
  | .arraylength, .retAddr e :: r => match X e with
      | some (n, _) => some (.int (Int32.ofNat n) :: r)
      | none => none
  | .getstatic ix, r => match rz_look (rz_sfT.getD oc []) ix with
      | some (e, _) => some (.retAddr e :: r)
      | none => none
  | .ldc ix, r => match rz_look (rz_kkT.getD oc []) ix with
      | some (.int v, _) => some (.int v :: r)
      | _ => none
  | .ldc_w ix, r => match rz_look (rz_kkT.getD oc []) ix with
      | some (.int v, _) => some (.int v :: r)
      | _ => none
  | .ldc2_w ix, r => match rz_look (rz_kkT.getD oc []) ix with
      | some (.long v, _) => some (.long v :: r)
      | _ => none
  | _, _ => none
/-- writes: the rest of the stack, the cell that changes, what it becomes -/
noncomputable def rz_wr (oc : Nat) (isI : Bool) (w : rz_W) : Instr → List Value → Option (List Value × Nat × rz_E)
  | .putfield ix, v :: .ref h :: r => match w[h]? with
    | some (.inr (ci, fs)) => match rz_look (rz_flT.getD oc []) ix with
      | some (cj, k, fin, ty, _) => if ci = cj ∧ narrow ty v = v ∧ fits ty v = true ∧ k < fs.length ∧ (fin = false ∨ (isI = true ∧ ci = oc)) then some (r, h, .inr (ci, fs.set k v)) else none
      | none => none
    | _ => none
  | .iastore, .int x :: .int i :: .ref a :: r => match w[a]? with
      | some (.inl (.int, n, .inl f)) => if i < 0 ∨ n ≤ i.toNatClampNeg then none else some (r, a, .inl (.int, n, .inl (upd f i.toNatClampNeg x)))
      | _ => none
  | .bastore, .int x :: .int i :: .ref a :: r => match w[a]? with
      | some (.inl (.boolean, n, .inl f)) => if i < 0 ∨ n ≤ i.toNatClampNeg then none else some (r, a, .inl (.boolean, n, .inl (upd f i.toNatClampNeg (vp_nar .boolean x))))
      | _ => none
  | .castore, .int x :: .int i :: .ref a :: r => match w[a]? with
      | some (.inl (.char, n, .inl f)) => if i < 0 ∨ n ≤ i.toNatClampNeg then none else some (r, a, .inl (.char, n, .inl (upd f i.toNatClampNeg (vp_nar .char x))))
      | _ => none
  | .lastore, .long x :: .int i :: .ref a :: r => match w[a]? with
      | some (.inl (.long, n, .inr (.inl f))) => if i < 0 ∨ n ≤ i.toNatClampNeg then none else some (r, a, .inl (.long, n, .inr (.inl (vp_updL f i.toNatClampNeg x))))
      | _ => none
  | .aastore, .ref v :: .int i :: .ref a :: r => match w[a]?, w[v]? with
      | some (.inl (.object C, n, .inr (.inr (.inr (.inr f))))), some (.inr (ci, _)) => if (i < 0 ∨ n ≤ i.toNatClampNeg) ∨ ¬ rz_on[ci]? = some C then none else some (r, a, .inl (.object C, n, .inr (.inr (.inr (.inr (va_up f i.toNatClampNeg (some v)))))))
      | _, _ => none
  | .aastore, .null :: .int i :: .ref a :: r => match w[a]? with
      | some (.inl (.object C, n, .inr (.inr (.inr (.inr f))))) => if i < 0 ∨ n ≤ i.toNatClampNeg then none else some (r, a, .inl (.object C, n, .inr (.inr (.inr (.inr (va_up f i.toNatClampNeg none))))))
      | _ => none
  | _, _ => none
/-- makings: the new cell, how many slots it has, the rest of the stack -/
def rz_zero : FieldType → (Nat → Int32) ⊕ (Nat → Int64) ⊕ (Nat → UInt32) ⊕ (Nat → UInt64) ⊕ (Nat → Option Nat)
  | .long => .inr (.inl fun _ => 0)
  | _ => .inl fun _ => 0
def rz_prim (t : ArrayType) : Option FieldType := match t with
  | .int => some .int
  | .long => some .long
  | .char => some .char
  | .boolean => some .boolean
  | _ => none
def rz_mk (oc : Nat) : Instr → List Value → Option (rz_E × Nat × List Value)
  | .new ix, r => match rz_look (rz_nwT.getD oc []) ix with
      | some (ci, fs, _) => some (.inr (ci, fs), fs.length, r)
      | none => none
  | .newarray t, .int n :: r => match rz_prim t with
      | some ty => if n < 0 ∨ 1000000 < n.toNatClampNeg then none else some (.inl (ty, n.toNatClampNeg, rz_zero ty), n.toNatClampNeg, r)
      | none => none
  | .anewarray ix, .int n :: r => match rz_look (rz_awT.getD oc []) ix with
      | some (C, _) => if n < 0 ∨ 1000000 < n.toNatClampNeg then none else some (.inl (.object C, n.toNatClampNeg, .inr (.inr (.inr (.inr fun _ => none)))), n.toNatClampNeg, r)
      | none => none
  | _, _ => none
/-- returns -/
def rz_rt (rt : Option FieldType) : Instr → List Value → Option (Option Value)
  | .ireturn, [.int v] => match rt with
      | some ty => if narrow ty (.int v) = .int v then some (some (.int v)) else none
      | none => none
  | .lreturn, [.long v] => if rt = some .long then some (some (.long v)) else none
  | .areturn, [.ref a] => match rt with
      | some (.object _) => some (some (.ref a))
      | some (.array _) => some (some (.ref a))
      | _ => none
  | .areturn, [.null] => match rt with
      | some (.object _) => some (some .null)
      | some (.array _) => some (some .null)
      | _ => none
  | .return_, [] => if rt = none then some none else none
  | _, _ => none
def rz_ca : Instr → Option (Nat × Nat)
  | .invokevirtual ix => some (1, ix)
  | .invokestatic ix => some (0, ix)
  | .invokespecial ix => some (2, ix)
  | _ => none
def rz_hand : List (Nat × Nat × String × Nat × Nat) → Nat → String → Option (Nat × Nat)
  | [], _, _ => none
  | (a, b, E, h, j) :: t, pc, E' => if a ≤ pc ∧ pc < b then (if E = E' then some (h, j) else rz_hand t pc E') else rz_hand t pc E'
def rz_cats (st : List Value) : Nat := (st.map fun v => v.category).sum
/-- a call: which method, the arguments, the stack behind them; 9: Object's constructor -/
def rz_go0 (oc : Nat) (w : rz_W) (q : Nat × Nat) (st : List Value) : Option (Nat × Nat × List Value × List Value) :=
  match rz_look (rz_clT.getD oc []) q.2 with
  | some (kind, mid, n, rc, _) =>
    if st.length < n ∨ 8 < rz_cats (st.drop n) then none else
    if (kind = 0 ∨ kind = 3 ∨ kind = 5) ∧ q.1 = 0 then some (kind, mid, (st.take n).reverse, st.drop n)
    else match (st.take n).reverse with
      | .ref h :: as => if kind = 1 ∧ q.1 = 1 then (match w[h]? with
          | some (.inr (ci, _)) => if ci = rc then some (kind, mid, .ref h :: as, st.drop n) else none
          | _ => none)
        else if (kind = 2 ∨ kind = 4 ∨ kind = 9) ∧ q.1 = 2 then some (kind, mid, .ref h :: as, st.drop n) else none
      | _ => none
  | none => none
def rz_isI (M : rz_M) : Bool := M.1.name == "<init>"
/-- one step: on to a state, or an end -/
noncomputable def rz_step (X : rz_X) (M : rz_M) (ex : Nat → List Value → rz_W → Option rz_R) : rz_C → Option (rz_C ⊕ rz_R)
  | (pc, loc, st, w, nc, ns) => match M with
    | (y, _, _, rt, oc, code, tx, hd, _) => match rz_look tx pc with
      | some E => (match st with
        | [] => some (.inr (.inr E, w, nc + 1, ns + 6))
        | _ :: _ => none)
      | none => match rz_look code pc with
        | none => none
        | some (i, len) => match rz_op i st with
          | some st' => some (.inl (pc + len, loc, st', w, nc, ns))
          | none => match rz_br i st with
            | some (b, o, st') => if b then some (.inl (((pc : Int) + o).toNat, loc, st', w, nc, ns)) else some (.inl (pc + len, loc, st', w, nc, ns))
            | none => match rz_ld i with
              | some (kd, j) => (match rz_at loc j with
                | some v => if rz_kd v = kd then some (.inl (pc + len, loc, v :: st, w, nc, ns)) else none
                | none => none)
              | none => match rz_st i with
                | some (kd, j) => (match st with
                  | v :: r => if rz_kd v = kd ∧ j + v.category ≤ loc.length then some (.inl (pc + len, rz_set loc j v, r, w, nc, ns)) else none
                  | [] => none)
                | none => match i with
                  | .iinc j n => (match rz_at loc j with
                    | some (.int x) => some (.inl (pc + len, rz_set loc j (.int (x + Int32.ofInt n)), st, w, nc, ns))
                    | _ => none)
                  | .tableswitch d lo hi offs => (match st with
                    | .int x :: r => if x.toInt < lo ∨ hi < x.toInt then some (.inl (((pc : Int) + d).toNat, loc, r, w, nc, ns)) else (match offs[(x.toInt - lo).toNat]? with
                      | some o => some (.inl (((pc : Int) + o).toNat, loc, r, w, nc, ns))
                      | none => none)
                    | _ => none)
                  | _ => match rz_rd X oc w i st with
                    | some st' => some (.inl (pc + len, loc, st', w, nc, ns))
                    | none => match rz_wr oc (y.name == "<init>") w i st with
                      | some (r, a, e) => some (.inl (pc + len, loc, r, w.set a e, nc, ns))
                      | none => match rz_mk oc i st with
                        | some (e, k, r) => some (.inl (pc + len, loc, .ref w.length :: r, w ++ [e], nc + 1, ns + k))
                        | none => match rz_rt rt i st with
                          | some o => some (.inr (.inl o, w, nc, ns))
                          | none => match rz_ca i with
                            | none => none
                            | some q => match rz_go0 oc w q st with
                              | none => none
                              | some (kind, mid, as, r) => if kind = 9 then some (.inl (pc + len, loc, r, w, nc, ns)) else match ex mid as w with
                                | none => none
                                | some (.inl none, w', c', s') => some (.inl (pc + len, loc, r, w', nc + c', ns + s'))
                                | some (.inl (some v), w', c', s') => some (.inl (pc + len, loc, v :: r, w', nc + c', ns + s'))
                                | some (.inr E, w', c', s') => match rz_hand hd pc E with
                                  | some (h, j) => some (.inl (h, rz_upd (rz_clr loc j) j none, [], w', nc + c', ns + s'))
                                  | none => if hd.isEmpty then some (.inr (.inr E, w', nc + c', ns + s')) else none
def rz_run (step : rz_C → Option (rz_C ⊕ rz_R)) : Nat → rz_C → Option rz_R
  | 0, _ => none
  | n + 1, c => match step c with
    | none => none
    | some (.inr r) => some r
    | some (.inl c') => rz_run step n c'
noncomputable def rz_go (step : rz_C → Option (rz_C ⊕ rz_R)) (c : rz_C) : Option rz_R :=
  @dite (Option rz_R) (∃ r, ∃ n, rz_run step n c = some r) (Classical.propDecidable _) (fun h => some h.choose) (fun _ => none)
theorem rz_run_mono {step : rz_C → Option (rz_C ⊕ rz_R)} : ∀ (n m : Nat) (c : rz_C) (r : rz_R), rz_run step n c = some r → n ≤ m → rz_run step m c = some r := by
  intro n
  induction n with
  | zero => intro m c r h _; cases h
  | succ n ih =>
    intro m c r h hm
    obtain ⟨k, rfl⟩ : ∃ k, m = k + 1 := ⟨m - 1, by omega⟩
    simp only [rz_run] at h ⊢
    cases hs : step c with
    | none => rw [hs] at h; cases h
    | some z =>
      rw [hs] at h
      cases z with
      | inl c' => exact ih k c' r h (by omega)
      | inr r' => exact h
theorem rz_run_det {step : rz_C → Option (rz_C ⊕ rz_R)} {n m : Nat} {c : rz_C} {r r' : rz_R} (h : rz_run step n c = some r) (h' : rz_run step m c = some r') : r = r' := by
  have h1 := rz_run_mono n (n + m) c r h (by omega)
  have h2 := rz_run_mono m (n + m) c r' h' (by omega)
  exact Option.some.inj (h1.symm.trans h2)
theorem rz_go_inv {step : rz_C → Option (rz_C ⊕ rz_R)} {c : rz_C} {r : rz_R} (h : rz_go step c = some r) : ∃ n, rz_run step n c = some r := by
  unfold rz_go at h
  by_cases hx : ∃ r, ∃ n, rz_run step n c = some r
  · rw [dif_pos hx] at h
    have e := Option.some.inj h
    rw [← e]
    exact hx.choose_spec
  · rw [dif_neg hx] at h; cases h
theorem rz_go_of {step : rz_C → Option (rz_C ⊕ rz_R)} {c : rz_C} {r : rz_R} {n : Nat} (h : rz_run step n c = some r) : rz_go step c = some r := by
  have hx : ∃ r, ∃ n, rz_run step n c = some r := ⟨r, n, h⟩
  unfold rz_go
  rw [dif_pos hx]
  obtain ⟨m, hm⟩ := hx.choose_spec
  rw [rz_run_det hm h]
theorem rz_go_eq {step : rz_C → Option (rz_C ⊕ rz_R)} (c : rz_C) : rz_go step c = match step c with
    | none => none
    | some (.inr r) => some r
    | some (.inl c') => rz_go step c' := by
  cases hs : step c with
  | none =>
    cases hg : rz_go step c with
    | none => rfl
    | some r =>
      obtain ⟨n, hn⟩ := rz_go_inv hg
      cases n with
      | zero => cases hn
      | succ n => simp only [rz_run, hs] at hn; cases hn
  | some z =>
    cases z with
    | inr r => exact rz_go_of (n := 1) (by simp only [rz_run, hs])
    | inl c' =>
      show rz_go step c = rz_go step c'
      cases hg : rz_go step c' with
      | some r =>
        obtain ⟨n, hn⟩ := rz_go_inv hg
        exact rz_go_of (n := n + 1) (by simp only [rz_run, hs]; exact hn)
      | none =>
        cases hg2 : rz_go step c with
        | none => rfl
        | some r =>
          obtain ⟨n, hn⟩ := rz_go_inv hg2
          cases n with
          | zero => cases hn
          | succ n =>
            simp only [rz_run, hs] at hn
            rw [rz_go_of hn] at hg
            cases hg
/-- a method, by its number, at a depth -/
noncomputable def rz_ex (X : rz_X) : Nat → Nat → List Value → rz_W → Option rz_R
  | 0, _, _, _ => none
  | d + 1, mid, as, w => match rz_ms[mid]? with
    | none => none
    | some M => if (rz_lay as).length ≤ M.2.2.1 then rz_go (rz_step X M (rz_ex X d)) (0, rz_pad M.2.2.1 (rz_lay as), [], w, 0, 0) else none
