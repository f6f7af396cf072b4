/-! part 17b: the start of the law as the interpreter wants it, by tools/gen_start.py -/
/-! THE CLAIM OUT OF ONE WALK OF THE LAW'S BODY. Your part is whole_start (and what it stands on); all else here is the same for every law, but numbers. -/
def R_law : String := "LatticeyardLaw"
def lw_P (b : Addr) (xs : List Int32) (args : Array Value) (s : State) : Prop := args = #[.ref b] ∧ s.IntsAt b xs ∧ xs.length ≤ 3072 ∧ (Jvm.Cond.and given_1 narrow_1).before args s = true
def lw_Q (_ : Array Value) (s : State) (o : Outcome) (t : State) : Prop := o = .returned (some (.int 1)) ∧ Framed s o t [] 601024 7293034
def lw_Z (below : List Frame) (a : Array Value) (s : State) : State → Prop := fun t => ∃ o, t.status = .running ∧ Ended t below o ∧ lw_Q a s o t
/-- the law's own end, with 1 on the stack, nothing written that was there before, its room as the claim has it -/
theorem lw_ret {p : Program} {l : Launch} {e : Env} {s : State} {m : MethodId} {below : List Frame} {meth : Method} {c : Code} {b : Nat} (hx : p.tables.exec = Jvm.exec) (hb : c.code = code) (hr : meth.sig.returnType = ret) (hlocks : meth.locks = false) {pc : Nat} {H : Heap} {ls : Array Slot} (hdg : decode code pc = .ok (.ireturn, 1)) : W p l e room_1 s m #[Value.ref b] below meth c H [] 601024 7293034 (lw_Z below #[Value.ref b] s) (F0 m pc ls [.int 1]) := by
  intro T hT X
  obtain ⟨fs, hret, hrun, hended, hW, hframe⟩ := X.leave (v := some (.int 1)) (hlocks := hlocks) (fun h => by rw [hr] at h; cases h)
  have hmeth' : T.vm.method? m = some meth := X.method'
  refine ⟨T.setFrames fs, ?_, .returned (some (.int 1)), hrun, hended, rfl, ⟨_, rfl⟩, hW, hframe⟩
  jvm_step X.here [X.here.top, hx, hb, hdg, hmeth', hr, ret, narrow_b1]
  (try refine ⟨rfl, ?_⟩); (try refine ⟨rfl, ?_⟩)
  first | (intro acts; rw [hret _ acts rfl rfl rfl]) | rw [hret _ _ rfl rfl rfl]
  exact Steps.refl _
/-- what holds at the law's entry: the machine, the code, the tables' words (any of lw_tbl by 'hts w (by decide +kernel)'), the script of L ints xs at the cell b, what the Statement gives of the start (any of its parts by flat_of_before) -/
def lw_At (p : Program) (s : State) (m : MethodId) (meth : Method) (c : Code) (b L : Nat) (xs : Nat → Int32) : Prop :=
  p.tables.exec = Jvm.exec ∧ c.code = code ∧ meth.sig.returnType = ret ∧ c.maxLocals = 7 ∧ s.vm.findClass R_law = some m.cls ∧ (∀ w ∈ lw_tbl, w.before #[Value.ref b] s = true) ∧ va_X b L xs s s.heap ∧ b < s.heap.size ∧ meth.locks = false ∧ (Jvm.Cond.and given_1 narrow_1).before #[Value.ref b] s = true

def st_leaves : List Cond := flatC (Jvm.Cond.and given_1 narrow_1)
set_option maxRecDepth 100000 in
theorem st_arrA : Cond.arrayOf (Term.static RX5 "ACROSS" "[I") .int ∈ st_leaves := List.mem_of_getElem? (i := 7) rfl
set_option maxRecDepth 100000 in
theorem st_lenA : Cond.eq (Term.length (Term.static RX5 "ACROSS" "[I")) (.int 4) ∈ st_leaves := List.mem_of_getElem? (i := 8) rfl
set_option maxRecDepth 100000 in
theorem st_elA0 : Cond.eq (Term.elem (Term.static RX5 "ACROSS" "[I") (.int 0)) (.int (1)) ∈ st_leaves := List.mem_of_getElem? (i := 9) rfl
set_option maxRecDepth 100000 in
theorem st_elA1 : Cond.eq (Term.elem (Term.static RX5 "ACROSS" "[I") (.int 1)) (.int (1)) ∈ st_leaves := List.mem_of_getElem? (i := 10) rfl
set_option maxRecDepth 100000 in
theorem st_elA2 : Cond.eq (Term.elem (Term.static RX5 "ACROSS" "[I") (.int 2)) (.int (-1)) ∈ st_leaves := List.mem_of_getElem? (i := 11) rfl
set_option maxRecDepth 100000 in
theorem st_elA3 : Cond.eq (Term.elem (Term.static RX5 "ACROSS" "[I") (.int 3)) (.int (-1)) ∈ st_leaves := List.mem_of_getElem? (i := 12) rfl
set_option maxRecDepth 100000 in
theorem st_arrU : Cond.arrayOf (Term.static RX5 "UP" "[I") .int ∈ st_leaves := List.mem_of_getElem? (i := 14) rfl
set_option maxRecDepth 100000 in
theorem st_lenU : Cond.eq (Term.length (Term.static RX5 "UP" "[I")) (.int 4) ∈ st_leaves := List.mem_of_getElem? (i := 15) rfl
set_option maxRecDepth 100000 in
theorem st_elU0 : Cond.eq (Term.elem (Term.static RX5 "UP" "[I") (.int 0)) (.int (1)) ∈ st_leaves := List.mem_of_getElem? (i := 16) rfl
set_option maxRecDepth 100000 in
theorem st_elU1 : Cond.eq (Term.elem (Term.static RX5 "UP" "[I") (.int 1)) (.int (-1)) ∈ st_leaves := List.mem_of_getElem? (i := 17) rfl
set_option maxRecDepth 100000 in
theorem st_elU2 : Cond.eq (Term.elem (Term.static RX5 "UP" "[I") (.int 2)) (.int (1)) ∈ st_leaves := List.mem_of_getElem? (i := 18) rfl
set_option maxRecDepth 100000 in
theorem st_elU3 : Cond.eq (Term.elem (Term.static RX5 "UP" "[I") (.int 3)) (.int (-1)) ∈ st_leaves := List.mem_of_getElem? (i := 19) rfl
set_option maxRecDepth 100000 in
theorem st_us : Cond.isRef (.static Bundle.tN "UNASSIGNED_STACK" Bundle.steD) ∈ st_leaves := List.mem_of_getElem? (i := 4) rfl
set_option maxRecDepth 100000 in
theorem st_ss : Cond.isRef (.static Bundle.tN "SUPPRESSED_SENTINEL" Bundle.listD) ∈ st_leaves := List.mem_of_getElem? (i := 5) rfl
set_option maxRecDepth 100000 in
theorem st_s0 : Cond.exactly (Term.string RX10 403) "java/lang/String" ∈ st_leaves := List.mem_of_getElem? (i := 100) rfl
set_option maxRecDepth 100000 in
theorem st_s1 : Cond.exactly (Term.string RX10 405) "java/lang/String" ∈ st_leaves := List.mem_of_getElem? (i := 116) rfl
set_option maxRecDepth 100000 in
theorem st_s2 : Cond.exactly (Term.string RX10 96) "java/lang/String" ∈ st_leaves := List.mem_of_getElem? (i := 144) rfl
set_option maxRecDepth 100000 in
theorem st_s3 : Cond.exactly (Term.string RX10 115) "java/lang/String" ∈ st_leaves := List.mem_of_getElem? (i := 171) rfl
set_option maxRecDepth 100000 in
theorem st_s4 : Cond.exactly (Term.string RX10 123) "java/lang/String" ∈ st_leaves := List.mem_of_getElem? (i := 187) rfl
set_option maxRecDepth 100000 in
theorem st_s5 : Cond.exactly (Term.string RX10 418) "java/lang/String" ∈ st_leaves := List.mem_of_getElem? (i := 205) rfl
set_option maxRecDepth 100000 in
theorem st_s6 : Cond.exactly (Term.string RX10 148) "java/lang/String" ∈ st_leaves := List.mem_of_getElem? (i := 229) rfl
set_option maxRecDepth 100000 in
theorem st_s7 : Cond.exactly (Term.string RX10 158) "java/lang/String" ∈ st_leaves := List.mem_of_getElem? (i := 243) rfl
set_option maxRecDepth 100000 in
theorem st_s8 : Cond.exactly (Term.string RX10 168) "java/lang/String" ∈ st_leaves := List.mem_of_getElem? (i := 275) rfl
set_option maxRecDepth 100000 in
theorem st_s9 : Cond.exactly (Term.string RX10 203) "java/lang/String" ∈ st_leaves := List.mem_of_getElem? (i := 294) rfl
set_option maxRecDepth 100000 in
theorem st_s10 : Cond.exactly (Term.string RX10 224) "java/lang/String" ∈ st_leaves := List.mem_of_getElem? (i := 325) rfl
set_option maxRecDepth 100000 in
theorem st_s11 : Cond.exactly (Term.string RX10 235) "java/lang/String" ∈ st_leaves := List.mem_of_getElem? (i := 342) rfl
set_option maxRecDepth 100000 in
theorem st_s12 : Cond.exactly (Term.string RX10 241) "java/lang/String" ∈ st_leaves := List.mem_of_getElem? (i := 368) rfl
set_option maxRecDepth 100000 in
theorem st_s13 : Cond.exactly (Term.string RX10 410) "java/lang/String" ∈ st_leaves := List.mem_of_getElem? (i := 397) rfl
set_option maxRecDepth 100000 in
theorem st_s14 : Cond.exactly (Term.string RX10 256) "java/lang/String" ∈ st_leaves := List.mem_of_getElem? (i := 418) rfl
set_option maxRecDepth 100000 in
theorem st_s15 : Cond.exactly (Term.string RX10 264) "java/lang/String" ∈ st_leaves := List.mem_of_getElem? (i := 434) rfl
set_option maxRecDepth 100000 in
theorem st_s16 : Cond.exactly (Term.string RX10 274) "java/lang/String" ∈ st_leaves := List.mem_of_getElem? (i := 455) rfl
set_option maxRecDepth 100000 in
theorem st_s17 : Cond.exactly (Term.string RX10 283) "java/lang/String" ∈ st_leaves := List.mem_of_getElem? (i := 480) rfl
set_option maxRecDepth 100000 in
theorem st_s18 : Cond.exactly (Term.string RX10 289) "java/lang/String" ∈ st_leaves := List.mem_of_getElem? (i := 499) rfl
set_option maxRecDepth 100000 in
theorem st_s19 : Cond.exactly (Term.string RX10 416) "java/lang/String" ∈ st_leaves := List.mem_of_getElem? (i := 513) rfl
set_option maxRecDepth 100000 in
theorem st_s20 : Cond.exactly (Term.string RX10 316) "java/lang/String" ∈ st_leaves := List.mem_of_getElem? (i := 537) rfl
set_option maxRecDepth 100000 in
theorem st_s21 : Cond.exactly (Term.string RX10 331) "java/lang/String" ∈ st_leaves := List.mem_of_getElem? (i := 574) rfl
set_option maxRecDepth 100000 in
theorem st_s22 : Cond.exactly (Term.string RX10 339) "java/lang/String" ∈ st_leaves := List.mem_of_getElem? (i := 617) rfl
set_option maxRecDepth 100000 in
theorem st_s23 : Cond.exactly (Term.string RX10 344) "java/lang/String" ∈ st_leaves := List.mem_of_getElem? (i := 634) rfl
set_option maxRecDepth 100000 in
theorem st_s24 : Cond.exactly (Term.string RX10 350) "java/lang/String" ∈ st_leaves := List.mem_of_getElem? (i := 647) rfl
set_option maxRecDepth 100000 in
theorem st_s25 : Cond.exactly (Term.string RX10 358) "java/lang/String" ∈ st_leaves := List.mem_of_getElem? (i := 671) rfl
set_option maxRecDepth 100000 in
theorem st_s26 : Cond.exactly (Term.string RX10 368) "java/lang/String" ∈ st_leaves := List.mem_of_getElem? (i := 687) rfl
set_option maxRecDepth 100000 in
theorem st_strs : ∀ q ∈ rz_strs, Cond.exactly (Term.string RX10 q.1) "java/lang/String" ∈ st_leaves := List.forall_mem_cons.mpr ⟨st_s0, List.forall_mem_cons.mpr ⟨st_s1, List.forall_mem_cons.mpr ⟨st_s2, List.forall_mem_cons.mpr ⟨st_s3, List.forall_mem_cons.mpr ⟨st_s4, List.forall_mem_cons.mpr ⟨st_s5, List.forall_mem_cons.mpr ⟨st_s6, List.forall_mem_cons.mpr ⟨st_s7, List.forall_mem_cons.mpr ⟨st_s8, List.forall_mem_cons.mpr ⟨st_s9, List.forall_mem_cons.mpr ⟨st_s10, List.forall_mem_cons.mpr ⟨st_s11, List.forall_mem_cons.mpr ⟨st_s12, List.forall_mem_cons.mpr ⟨st_s13, List.forall_mem_cons.mpr ⟨st_s14, List.forall_mem_cons.mpr ⟨st_s15, List.forall_mem_cons.mpr ⟨st_s16, List.forall_mem_cons.mpr ⟨st_s17, List.forall_mem_cons.mpr ⟨st_s18, List.forall_mem_cons.mpr ⟨st_s19, List.forall_mem_cons.mpr ⟨st_s20, List.forall_mem_cons.mpr ⟨st_s21, List.forall_mem_cons.mpr ⟨st_s22, List.forall_mem_cons.mpr ⟨st_s23, List.forall_mem_cons.mpr ⟨st_s24, List.forall_mem_cons.mpr ⟨st_s25, List.forall_mem_cons.mpr ⟨st_s26, fun _ h => absurd h List.not_mem_nil⟩⟩⟩⟩⟩⟩⟩⟩⟩⟩⟩⟩⟩⟩⟩⟩⟩⟩⟩⟩⟩⟩⟩⟩⟩⟩⟩
set_option maxRecDepth 100000 in
theorem st_n0 : Cond.not (Cond.castable "java/lang/IllegalArgumentException" "java/lang/IndexOutOfBoundsException") ∈ st_leaves := List.mem_of_getElem? (i := 31) rfl
set_option maxRecDepth 100000 in
theorem st_n1 : Cond.not (Cond.castable "java/lang/UnsupportedOperationException" "java/lang/IndexOutOfBoundsException") ∈ st_leaves := List.mem_of_getElem? (i := 33) rfl
set_option maxRecDepth 100000 in
theorem st_n2 : Cond.not (Cond.castable "java/util/NoSuchElementException" "java/lang/IndexOutOfBoundsException") ∈ st_leaves := List.mem_of_getElem? (i := 34) rfl
set_option maxRecDepth 100000 in
theorem st_n3 : Cond.not (Cond.castable "java/lang/IllegalStateException" "java/lang/IndexOutOfBoundsException") ∈ st_leaves := List.mem_of_getElem? (i := 35) rfl
set_option maxRecDepth 100000 in
theorem st_n4 : Cond.not (Cond.castable "java/lang/IndexOutOfBoundsException" "java/lang/IllegalArgumentException") ∈ st_leaves := List.mem_of_getElem? (i := 47) rfl
set_option maxRecDepth 100000 in
theorem st_n5 : Cond.not (Cond.castable "java/lang/UnsupportedOperationException" "java/lang/IllegalArgumentException") ∈ st_leaves := List.mem_of_getElem? (i := 49) rfl
set_option maxRecDepth 100000 in
theorem st_n6 : Cond.not (Cond.castable "java/util/NoSuchElementException" "java/lang/IllegalArgumentException") ∈ st_leaves := List.mem_of_getElem? (i := 50) rfl
set_option maxRecDepth 100000 in
theorem st_n7 : Cond.not (Cond.castable "java/lang/IllegalStateException" "java/lang/IllegalArgumentException") ∈ st_leaves := List.mem_of_getElem? (i := 51) rfl
set_option maxRecDepth 100000 in
theorem st_n8 : Cond.not (Cond.castable "java/lang/IndexOutOfBoundsException" "java/lang/UnsupportedOperationException") ∈ st_leaves := List.mem_of_getElem? (i := 63) rfl
set_option maxRecDepth 100000 in
theorem st_n9 : Cond.not (Cond.castable "java/lang/IllegalArgumentException" "java/lang/UnsupportedOperationException") ∈ st_leaves := List.mem_of_getElem? (i := 64) rfl
set_option maxRecDepth 100000 in
theorem st_n10 : Cond.not (Cond.castable "java/util/NoSuchElementException" "java/lang/UnsupportedOperationException") ∈ st_leaves := List.mem_of_getElem? (i := 66) rfl
set_option maxRecDepth 100000 in
theorem st_n11 : Cond.not (Cond.castable "java/lang/IllegalStateException" "java/lang/UnsupportedOperationException") ∈ st_leaves := List.mem_of_getElem? (i := 67) rfl
set_option maxRecDepth 100000 in
theorem st_n12 : Cond.not (Cond.castable "java/lang/IndexOutOfBoundsException" "java/util/NoSuchElementException") ∈ st_leaves := List.mem_of_getElem? (i := 79) rfl
set_option maxRecDepth 100000 in
theorem st_n13 : Cond.not (Cond.castable "java/lang/IllegalArgumentException" "java/util/NoSuchElementException") ∈ st_leaves := List.mem_of_getElem? (i := 80) rfl
set_option maxRecDepth 100000 in
theorem st_n14 : Cond.not (Cond.castable "java/lang/UnsupportedOperationException" "java/util/NoSuchElementException") ∈ st_leaves := List.mem_of_getElem? (i := 82) rfl
set_option maxRecDepth 100000 in
theorem st_n15 : Cond.not (Cond.castable "java/lang/IllegalStateException" "java/util/NoSuchElementException") ∈ st_leaves := List.mem_of_getElem? (i := 83) rfl
set_option maxRecDepth 100000 in
theorem st_n16 : Cond.not (Cond.castable "java/lang/IndexOutOfBoundsException" "java/lang/IllegalStateException") ∈ st_leaves := List.mem_of_getElem? (i := 95) rfl
set_option maxRecDepth 100000 in
theorem st_n17 : Cond.not (Cond.castable "java/lang/IllegalArgumentException" "java/lang/IllegalStateException") ∈ st_leaves := List.mem_of_getElem? (i := 96) rfl
set_option maxRecDepth 100000 in
theorem st_n18 : Cond.not (Cond.castable "java/lang/UnsupportedOperationException" "java/lang/IllegalStateException") ∈ st_leaves := List.mem_of_getElem? (i := 98) rfl
set_option maxRecDepth 100000 in
theorem st_n19 : Cond.not (Cond.castable "java/util/NoSuchElementException" "java/lang/IllegalStateException") ∈ st_leaves := List.mem_of_getElem? (i := 99) rfl
set_option maxRecDepth 100000 in
theorem st_ncs : ∀ q ∈ rz_ncs, Cond.not (Cond.castable q.1 q.2) ∈ st_leaves := List.forall_mem_cons.mpr ⟨st_n0, List.forall_mem_cons.mpr ⟨st_n1, List.forall_mem_cons.mpr ⟨st_n2, List.forall_mem_cons.mpr ⟨st_n3, List.forall_mem_cons.mpr ⟨st_n4, List.forall_mem_cons.mpr ⟨st_n5, List.forall_mem_cons.mpr ⟨st_n6, List.forall_mem_cons.mpr ⟨st_n7, List.forall_mem_cons.mpr ⟨st_n8, List.forall_mem_cons.mpr ⟨st_n9, List.forall_mem_cons.mpr ⟨st_n10, List.forall_mem_cons.mpr ⟨st_n11, List.forall_mem_cons.mpr ⟨st_n12, List.forall_mem_cons.mpr ⟨st_n13, List.forall_mem_cons.mpr ⟨st_n14, List.forall_mem_cons.mpr ⟨st_n15, List.forall_mem_cons.mpr ⟨st_n16, List.forall_mem_cons.mpr ⟨st_n17, List.forall_mem_cons.mpr ⟨st_n18, List.forall_mem_cons.mpr ⟨st_n19, fun _ h => absurd h List.not_mem_nil⟩⟩⟩⟩⟩⟩⟩⟩⟩⟩⟩⟩⟩⟩⟩⟩⟩⟩⟩⟩
set_option maxRecDepth 100000 in
theorem st_nests : ∀ q ∈ rz_nests, Cond.methodLinkNest q.1 q.2.1 q.2.2.1 q.2.2.2 ∈ lw_tbl := by decide +kernel
set_option maxRecDepth 100000 in
theorem st_srefs : ∀ q ∈ rz_strs, Cond.stringRef RX10 q.1 q.2 ∈ lw_tbl := by decide +kernel
set_option maxRecDepth 100000 in
theorem st_lay1 : lw_tbl[668]? = some (.laysStatic Bundle.tN "UNASSIGNED_STACK" Bundle.steD) ∧ lw_tbl[670]? = some (.laysStatic Bundle.tN "SUPPRESSED_SENTINEL" Bundle.listD) ∧ lw_tbl[84]? = some (.initialized Bundle.tN) := ⟨rfl, rfl, rfl⟩
set_option maxRecDepth 100000 in
theorem st_lay2 : lw_tbl[1319]? = some (.laysStatic RX5 "ACROSS" "[I") ∧ lw_tbl[1321]? = some (.laysStatic RX5 "UP" "[I") ∧ lw_tbl[81]? = some (.initialized RX5) ∧ lw_tbl[104]? = some (.arrayOver (.object "Latticeyard$Grid")) := ⟨rfl, rfl, rfl, rfl⟩
set_option maxRecDepth 100000 in
theorem st_ins : (vwCl.all fun q => decide (Cond.instantiable q.1 q.2.2 ∈ lw_tbl)) = true := by decide +kernel
def rz_across : Nat → Int32
  | 0 => 1
  | 1 => 1
  | 2 => -1
  | _ => -1
def rz_upw : Nat → Int32
  | 0 => 1
  | 1 => -1
  | 2 => 1
  | _ => -1
def rz_X0 (L : Nat) (xs : Nat → Int32) : rz_X
  | 0 => some (L, xs)
  | 1 => some (4, rz_across)
  | 2 => some (4, rz_upw)
  | _ => none
theorem rz_K0 {s : State} {args : Array Value} (hts : ∀ w ∈ lw_tbl, w.before args s = true) : ∃ (dC : Nat → ClassId) (dI : Nat → Nat → Nat) (dA : FieldType → ClassId), va_K (dC, dI) vwCl (rz_tys dA) s := by
  have h1 : ∀ ci : Nat, ∃ z : ClassId × (Nat → Nat), ∀ q : vw_C, vwCl[ci]? = some q → u_Kn s q.1 q.2.1 q.2.2 z.1 z.2 := by
    intro ci
    cases hv : vwCl[ci]? with
    | none => exact ⟨(0, fun _ => 0), fun q h => by cases h⟩
    | some q =>
      obtain ⟨C, T, N⟩ := q
      have hi := List.all_eq_true.mp st_ins _ (List.mem_of_getElem? hv)
      simp only [decide_eq_true_eq] at hi
      obtain ⟨cC, iS, h⟩ := u_known (C := C) (T := T) (N := N) (n := N) hts (fun w hw => (List.mem_filter.mp (rz_uw hv w hw)).1) (hts _ hi)
      exact ⟨(cC, iS), fun q h2 => by cases h2; exact h⟩
  have h2 : ∀ ty : FieldType, ∃ cA : ClassId, ty ∈ rz_five → ArrOfT s cA ty ∧ va_RA s cA ty := by
    intro ty
    have prim : ∀ ty ∈ [FieldType.int, .long, .char, .boolean], ∃ cA : ClassId, ArrOfT s cA ty ∧ s.vm.findClass ("[" ++ ty.toString) = some cA := fun ty hty => by
      obtain ⟨cA, kA, comp, a1, a2, a3⟩ := Cond.arrayClass_spec (hts _ (rz_arr_in ty hty))
      exact ⟨cA, fun n z => ⟨fun k h => (by cases h), kA, a2, comp, a3⟩, a1⟩
    by_cases h5 : ty ∈ rz_five
    · simp only [rz_five, List.mem_cons, List.not_mem_nil, or_false] at h5
      rcases h5 with rfl | rfl | rfl | rfl | rfl
      · obtain ⟨cA, a1, a2⟩ := prim .int (by simp); exact ⟨cA, fun _ => ⟨a1, a2⟩⟩
      · obtain ⟨cA, a1, a2⟩ := prim .long (by simp); exact ⟨cA, fun _ => ⟨a1, a2⟩⟩
      · obtain ⟨cA, a1, a2⟩ := prim .char (by simp); exact ⟨cA, fun _ => ⟨a1, a2⟩⟩
      · obtain ⟨cA, a1, a2⟩ := prim .boolean (by simp); exact ⟨cA, fun _ => ⟨a1, a2⟩⟩
      · obtain ⟨comp, cA, kA, a1, a2, a3, a4, a5⟩ := Cond.arrayOver_spec (hts _ (List.mem_of_getElem? st_lay2.2.2.2))
        exact ⟨cA, fun _ => ⟨fun n z => ⟨fun k h => (by cases h), kA, a3, comp, a4⟩, kA, comp, a3, a4, a1, a5⟩⟩
    · exact ⟨0, fun h => absurd h h5⟩
  refine ⟨fun ci => (h1 ci).choose.1, fun ci => (h1 ci).choose.2, fun ty => (h2 ty).choose, fun ci q hq => (h1 ci).choose_spec q hq, fun k q hq => ?_⟩
  rw [rz_tys, List.getElem?_map] at hq
  cases h5 : rz_five[k]? with
  | none => rw [h5] at hq; cases hq
  | some ty =>
    rw [h5] at hq
    cases hq
    exact (h2 ty).choose_spec (List.mem_of_getElem? h5)
theorem rz_env0 {s : State} {b L : Nat} {xs : Nat → Int32} (hL : L ≤ 3072) (hts : ∀ w ∈ lw_tbl, w.before #[Value.ref b] s = true) (hX : va_X b L xs s s.heap) (hbl : b < s.heap.size) (hgv : (Jvm.Cond.and given_1 narrow_1).before #[Value.ref b] s = true) : ∃ xd : Nat → Nat, xd 0 = b ∧ rz_Env (rz_X0 L xs) xd (fun q => s.heap.size ≤ q) s := by
  have hs : ∀ c ∈ st_leaves, c.before #[Value.ref b] s = true := flat_of_before _ hgv
  have hA : ∀ a : Nat, a < s.heap.size → ¬ (fun q => s.heap.size ≤ q) a := fun a h => Nat.not_le.mpr h
  obtain ⟨tA, eA, vA⟩ := va_Tof (N := 4) (f := fun j => .int (rz_across j)) (A := fun q => s.heap.size ≤ q) (by decide) (hs _ st_arrA) (va_eqt (hs _ st_lenA)) (fun j hj => by
    match j, hj with
    | 0, _ => exact va_eqt (hs _ st_elA0)
    | 1, _ => exact va_eqt (hs _ st_elA1)
    | 2, _ => exact va_eqt (hs _ st_elA2)
    | 3, _ => exact va_eqt (hs _ st_elA3)) hA
  obtain ⟨tU, eU, vU⟩ := va_Tof (N := 4) (f := fun j => .int (rz_upw j)) (A := fun q => s.heap.size ≤ q) (by decide) (hs _ st_arrU) (va_eqt (hs _ st_lenU)) (fun j hj => by
    match j, hj with
    | 0, _ => exact va_eqt (hs _ st_elU0)
    | 1, _ => exact va_eqt (hs _ st_elU1)
    | 2, _ => exact va_eqt (hs _ st_elU2)
    | 3, _ => exact va_eqt (hs _ st_elU3)) hA
  refine ⟨fun e => match e with | 0 => b | 1 => tA | _ => tU, rfl, ⟨fun e n f hf => ?_, ?_, ?_⟩, va_AO.of (hts _ (List.mem_of_getElem? st_lay2.2.2.2)), fun q hq => va_Nw.of rfl (hts _ (st_nests q hq)), fun w hw => ?_, fun q hq => ?_, ?_, ?_, fun q hq => ?_⟩
  · match e, hf with
    | 0, hf =>
      cases hf
      obtain ⟨scr, g1, g2, g3, g4, g5⟩ := hX
      exact ⟨scr, g1, g2, g3, by rw [g4]; exact Nat.le_refl _, by rw [g4], g5, hA b hbl⟩
    | 1, hf => cases hf; exact vA
    | 2, hf => cases hf; exact vU
    | e + 3, hf => cases hf
  · exact va_Zof (hts _ (List.mem_of_getElem? st_lay2.1)) (hts _ (List.mem_of_getElem? st_lay2.2.2.1)) eA hA
  · exact va_Zof (hts _ (List.mem_of_getElem? st_lay2.2.1)) (hts _ (List.mem_of_getElem? st_lay2.2.2.1)) eU hA
  · obtain ⟨h1, h2⟩ := List.mem_filter.mp hw
    have hon : w.onTables = true := by
      unfold rz_sk at h2
      split at h2
      · rfl
      · rfl
      · cases h2
    exact va_Nw.of hon (hts w h1)
  · obtain ⟨a, cQ, cell, kQ, ha, -⟩ := Cond.exactly_spec (hs _ (st_strs q hq))
    exact ⟨a, vk_R.of (hts _ (st_srefs q hq)) ha⟩
  · exact vx_Zqof (hts _ (List.mem_of_getElem? st_lay1.1)) (hts _ (List.mem_of_getElem? st_lay1.2.2)) (hs _ st_us) hA
  · exact vx_Zqof (hts _ (List.mem_of_getElem? st_lay1.2.1)) (hts _ (List.mem_of_getElem? st_lay1.2.2)) (hs _ st_ss) hA
  · exact va_Nc.of (hs _ (st_ncs q hq))
/-- THE CLAIM OUT OF ONE PURE STATEMENT about the interpreter -/
def rz_PURE : Prop := ∀ (L : Nat) (xs : Nat → Int32), L ≤ 3072 → ∃ (d : Nat) (w' : rz_W) (nc ns : Nat), d ≤ 1000 ∧ nc ≤ 601024 ∧ ns ≤ 7293034 ∧ rz_go (rz_step (rz_X0 L xs) mz_L_law (rz_ex (rz_X0 L xs) d)) (0, rz_pad 7 [some (.retAddr 0)], [], [], 0, 0) = some (.inl (some (.int 1)), w', nc, ns)
set_option maxHeartbeats 1000000 in
theorem rz_whole (PURE : rz_PURE) {p : Program} {e : Env} {s : State} {m : MethodId} {below : List Frame} {meth : Method} {c : Code} (l : Launch) (hflags : l.flags = flags0) {b L : Nat} {xs : Nat → Int32} (hL : L ≤ 3072) (C0 : lw_At p s m meth c b L xs) : W p l e room_1 s m #[Value.ref b] below meth c s.heap [] 0 0 (lw_Z below #[Value.ref b] s) (entryFrame m ([Value.ref b] : List Value).toArray 7) := by
  obtain ⟨hx, hb, hr, hml, hown, hts, hX, hbl, hlocks, hgv⟩ := id C0
  have hlt : l.stackTraces = false := by
    unfold Launch.stackTraces
    rw [hflags]
    decide +kernel
  obtain ⟨xd, hxd, hE⟩ := rz_env0 hL hts hX hbl hgv
  obtain ⟨dC, dI, dA, hK⟩ := rz_K0 hts
  obtain ⟨d, w', nc, ns, hd, hnc, hns, hgo⟩ := PURE L xs hL
  obtain ⟨n, hn⟩ := rz_go_inv hgo
  have htg : ∀ w ∈ lw_good, w.before #[Value.ref b] s = true := fun w hw => hts w (List.mem_filter.mp hw).1
  have hl := lv_entry ([.ref b]) (n := 7) (Nat.le_of_ble_eq_true rfl)
  rw [lg_entry_eq]
  generalize (lg_sl ([.ref b]) ++ List.replicate (7 - (lg_sl ([.ref b])).length) Slot.unset).toArray = ls at hl ⊢
  have hlo : rz_lok (fun _ => 0) xd ls 7 (rz_pad 7 [some (.retAddr 0)]) := by
    refine ⟨rfl, ?_⟩
    rw [rz_lp_pad]
    have e1 : rz_lp (fun _ => 0) xd 0 [some (.retAddr 0)] = [(0, Value.ref b)] := by
      show [(0, Value.ref (xd 0))] = _
      rw [hxd]
    rw [e1]
    exact hl
  refine rz_run_sound (M := mz_L_law) (X := rz_X0 L xs) (dA := dA) (dC := dC) (dI := dI) (A := fun q => s.heap.size ≤ q) (R := room_1) (d := d) (n0 := 0) (ad0 := fun _ => 0) (r := (.inl (some (.int 1)), w', nc, ns)) hx hb hml dk_L_law mfa hown (fun q => by cases q) htg hE hK (fun q h => h) ?_ ?_ (fun mid as w o w' nc ns h h1 h2 => rz_contract hlt d mid as w o w' nc ns h h1 h2) hnc hns ?_ ?_ ?_ ?_ n 0 _ [] [] 0 0 hn (fun k e h => by simp at h) (fun i v hv => ?_) (fun v hv => by cases hv) (Nat.le_refl _) (fun _ => 0) (fun _ _ => rfl) s.heap [] ls (fun k q h => by simp [rz_ws] at h) ⟨fun i j p q h => by simp [rz_ws] at h, fun k q h => by simp [rz_ws] at h⟩ va_S.rf hlo
  · show d + 9 ≤ 2048; omega
  · show 64 * d + 264 ≤ 84000; omega
  · intro o ho ad hag H locs ls pc i len st hP hD hS hrt hdc hlen
    cases ho
    unfold rz_rt at hrt
    split at hrt
    · split at hrt
      · split at hrt
        · cases hrt
          subst hlen
          refine va_forget (fun q hq => hS.2.2 q hq) ?_
          refine W.widen (k := 601024) (n := 7293034) hnc hns ?_
          exact lw_ret hx hb hr hlocks hdc
        · cases hrt
      · cases hrt
    · split at hrt
      · cases hrt
      · cases hrt
    · split at hrt <;> cases hrt
    · split at hrt <;> cases hrt
    · split at hrt <;> cases hrt
    · cases hrt
  · intro E hE'; cases hE'
  · intro E hE'; cases hE'
  · intro E pc h j hq; cases hq
  · have := rz_at_pad hv
    match i, this with
    | 0, h => cases h; exact rz_rv_ret
    | i + 1, h => cases h
