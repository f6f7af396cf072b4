/-! part 12b: what the tables say of the places that throw, and of the handlers, by tools/gen_facts.py -/
def rz_ex5 : List String := ["java/lang/IndexOutOfBoundsException", "java/lang/IllegalArgumentException", "java/lang/UnsupportedOperationException", "java/util/NoSuchElementException", "java/lang/IllegalStateException"]
def rz_txf (M : rz_M) (pc : Nat) (E : String) : Prop := M.2.2.2.2.1 = 10 ∧ ∃ ik is ic, (ic, E) ∈ rz_ics ∧ Cond.classLink RX10 ik E ∈ lw_good ∧ (∃ text, (is, text) ∈ rz_strs) ∧ decode M.2.1 pc = .ok (.new ik, 3) ∧ decode M.2.1 (pc + 3) = .ok (.dup, 1) ∧
  ((decode M.2.1 (pc + 4) = .ok (.ldc is, 2) ∧ decode M.2.1 (pc + 6) = .ok (.invokespecial ic, 3) ∧ decode M.2.1 (pc + 9) = .ok (.athrow, 1)) ∨ (decode M.2.1 (pc + 4) = .ok (.ldc_w is, 3) ∧ decode M.2.1 (pc + 7) = .ok (.invokespecial ic, 3) ∧ decode M.2.1 (pc + 10) = .ok (.athrow, 1)))
def rz_hz (b : ByteArray) (oc nL : Nat) : List (Nat × Nat × Nat × Nat) → List (Nat × Nat × String × Nat × Nat) → Prop
  | [], [] => True
  | (a, b', hp, ct) :: t, (a2, b2, nm, h, j) :: t' => (a = a2 ∧ b' = b2 ∧ ct ≠ 0 ∧ j < nL ∧ nm ∈ rz_ex5 ∧ Cond.classLink (rz_own oc) ct nm ∈ lw_good ∧ ((decode b hp = .ok (.astore j, 2) ∧ h = hp + 2) ∨ ∃ k : Fin 4, (k : Nat) = j ∧ decode b hp = .ok (.astore_n k, 1) ∧ h = hp + 1)) ∧ rz_hz b oc nL t t'
  | _, _ => False
def rz_ef (M : rz_M) : Prop := (∀ q ∈ M.2.2.2.2.2.2.1, rz_txf M q.1 q.2) ∧ rz_hz M.2.1 M.2.2.2.2.1 M.2.2.1 M.2.2.2.2.2.2.2.2 M.2.2.2.2.2.2.2.1 ∧ (M.2.2.2.2.2.2.1 = [] ∨ M.2.2.2.2.2.2.2.2 = [])
set_option maxRecDepth 100000 in
theorem txf_X10_spanned_67 : rz_txf mz_X10_spanned 67 "java/lang/UnsupportedOperationException" := ⟨rfl, 94, 96, 98, List.mem_of_getElem? (i := 2) rfl, rz_good (i := 731) rfl rfl, ⟨_, List.mem_of_getElem? (i := 2) rfl⟩, by decide +kernel, by decide +kernel, Or.inl ⟨by decide +kernel, by decide +kernel, by decide +kernel⟩⟩
set_option maxRecDepth 100000 in
theorem txf_X10_nth_24 : rz_txf mz_X10_nth 24 "java/util/NoSuchElementException" := ⟨rfl, 113, 115, 117, List.mem_of_getElem? (i := 3) rfl, rz_good (i := 776) rfl rfl, ⟨_, List.mem_of_getElem? (i := 3) rfl⟩, by decide +kernel, by decide +kernel, Or.inl ⟨by decide +kernel, by decide +kernel, by decide +kernel⟩⟩
set_option maxRecDepth 100000 in
theorem txf_X10_form_22 : rz_txf mz_X10_form 22 "java/lang/IllegalArgumentException" := ⟨rfl, 121, 123, 125, List.mem_of_getElem? (i := 1) rfl, rz_good (i := 714) rfl rfl, ⟨_, List.mem_of_getElem? (i := 4) rfl⟩, by decide +kernel, by decide +kernel, Or.inl ⟨by decide +kernel, by decide +kernel, by decide +kernel⟩⟩
set_option maxRecDepth 100000 in
theorem txf_X10_parts_39 : rz_txf mz_X10_parts 39 "java/lang/UnsupportedOperationException" := ⟨rfl, 94, 148, 98, List.mem_of_getElem? (i := 2) rfl, rz_good (i := 731) rfl rfl, ⟨_, List.mem_of_getElem? (i := 6) rfl⟩, by decide +kernel, by decide +kernel, Or.inl ⟨by decide +kernel, by decide +kernel, by decide +kernel⟩⟩
set_option maxRecDepth 100000 in
theorem txf_X10_meet_40 : rz_txf mz_X10_meet 40 "java/lang/IllegalStateException" := ⟨rfl, 156, 158, 160, List.mem_of_getElem? (i := 4) rfl, rz_good (i := 842) rfl rfl, ⟨_, List.mem_of_getElem? (i := 7) rfl⟩, by decide +kernel, by decide +kernel, Or.inl ⟨by decide +kernel, by decide +kernel, by decide +kernel⟩⟩
set_option maxRecDepth 100000 in
theorem txf_X10_undo_17 : rz_txf mz_X10_undo 17 "java/util/NoSuchElementException" := ⟨rfl, 113, 168, 117, List.mem_of_getElem? (i := 3) rfl, rz_good (i := 776) rfl rfl, ⟨_, List.mem_of_getElem? (i := 8) rfl⟩, by decide +kernel, by decide +kernel, Or.inl ⟨by decide +kernel, by decide +kernel, by decide +kernel⟩⟩
set_option maxRecDepth 100000 in
theorem txf_X10_tellCorner_28 : rz_txf mz_X10_tellCorner 28 "java/util/NoSuchElementException" := ⟨rfl, 113, 203, 117, List.mem_of_getElem? (i := 3) rfl, rz_good (i := 776) rfl rfl, ⟨_, List.mem_of_getElem? (i := 9) rfl⟩, by decide +kernel, by decide +kernel, Or.inl ⟨by decide +kernel, by decide +kernel, by decide +kernel⟩⟩
set_option maxRecDepth 100000 in
theorem txf_X10_signAt_15 : rz_txf mz_X10_signAt 15 "java/lang/IndexOutOfBoundsException" := ⟨rfl, 222, 224, 226, List.mem_of_getElem? (i := 0) rfl, rz_good (i := 641) rfl rfl, ⟨_, List.mem_of_getElem? (i := 10) rfl⟩, by decide +kernel, by decide +kernel, Or.inl ⟨by decide +kernel, by decide +kernel, by decide +kernel⟩⟩
set_option maxRecDepth 100000 in
theorem txf_X10_coins_11 : rz_txf mz_X10_coins 11 "java/lang/IllegalArgumentException" := ⟨rfl, 121, 235, 125, List.mem_of_getElem? (i := 1) rfl, rz_good (i := 714) rfl rfl, ⟨_, List.mem_of_getElem? (i := 11) rfl⟩, by decide +kernel, by decide +kernel, Or.inl ⟨by decide +kernel, by decide +kernel, by decide +kernel⟩⟩
set_option maxRecDepth 100000 in
theorem txf_X10_coins_44 : rz_txf mz_X10_coins 44 "java/lang/UnsupportedOperationException" := ⟨rfl, 94, 241, 98, List.mem_of_getElem? (i := 2) rfl, rz_good (i := 731) rfl rfl, ⟨_, List.mem_of_getElem? (i := 12) rfl⟩, by decide +kernel, by decide +kernel, Or.inl ⟨by decide +kernel, by decide +kernel, by decide +kernel⟩⟩
set_option maxRecDepth 100000 in
theorem txf_X10_lackAt_19 : rz_txf mz_X10_lackAt 19 "java/util/NoSuchElementException" := ⟨rfl, 113, 256, 117, List.mem_of_getElem? (i := 3) rfl, rz_good (i := 776) rfl rfl, ⟨_, List.mem_of_getElem? (i := 14) rfl⟩, by decide +kernel, by decide +kernel, Or.inr ⟨by decide +kernel, by decide +kernel, by decide +kernel⟩⟩
set_option maxRecDepth 100000 in
theorem txf_X10_fewest_25 : rz_txf mz_X10_fewest 25 "java/util/NoSuchElementException" := ⟨rfl, 113, 264, 117, List.mem_of_getElem? (i := 3) rfl, rz_good (i := 776) rfl rfl, ⟨_, List.mem_of_getElem? (i := 15) rfl⟩, by decide +kernel, by decide +kernel, Or.inr ⟨by decide +kernel, by decide +kernel, by decide +kernel⟩⟩
set_option maxRecDepth 100000 in
theorem txf_X10_corner_28 : rz_txf mz_X10_corner 28 "java/lang/IllegalStateException" := ⟨rfl, 156, 274, 160, List.mem_of_getElem? (i := 4) rfl, rz_good (i := 842) rfl rfl, ⟨_, List.mem_of_getElem? (i := 16) rfl⟩, by decide +kernel, by decide +kernel, Or.inr ⟨by decide +kernel, by decide +kernel, by decide +kernel⟩⟩
set_option maxRecDepth 100000 in
theorem txf_X10_close_11 : rz_txf mz_X10_close 11 "java/lang/IllegalStateException" := ⟨rfl, 156, 283, 160, List.mem_of_getElem? (i := 4) rfl, rz_good (i := 842) rfl rfl, ⟨_, List.mem_of_getElem? (i := 17) rfl⟩, by decide +kernel, by decide +kernel, Or.inr ⟨by decide +kernel, by decide +kernel, by decide +kernel⟩⟩
set_option maxRecDepth 100000 in
theorem txf_X10_close_32 : rz_txf mz_X10_close 32 "java/lang/UnsupportedOperationException" := ⟨rfl, 94, 289, 98, List.mem_of_getElem? (i := 2) rfl, rz_good (i := 731) rfl rfl, ⟨_, List.mem_of_getElem? (i := 18) rfl⟩, by decide +kernel, by decide +kernel, Or.inr ⟨by decide +kernel, by decide +kernel, by decide +kernel⟩⟩
set_option maxRecDepth 100000 in
theorem txf_X10_triangleAt_30 : rz_txf mz_X10_triangleAt 30 "java/util/NoSuchElementException" := ⟨rfl, 113, 316, 117, List.mem_of_getElem? (i := 3) rfl, rz_good (i := 776) rfl rfl, ⟨_, List.mem_of_getElem? (i := 20) rfl⟩, by decide +kernel, by decide +kernel, Or.inr ⟨by decide +kernel, by decide +kernel, by decide +kernel⟩⟩
set_option maxRecDepth 100000 in
theorem txf_X10_tiles_24 : rz_txf mz_X10_tiles 24 "java/lang/UnsupportedOperationException" := ⟨rfl, 94, 331, 98, List.mem_of_getElem? (i := 2) rfl, rz_good (i := 731) rfl rfl, ⟨_, List.mem_of_getElem? (i := 21) rfl⟩, by decide +kernel, by decide +kernel, Or.inr ⟨by decide +kernel, by decide +kernel, by decide +kernel⟩⟩
set_option maxRecDepth 100000 in
theorem txf_X10_seenAt_19 : rz_txf mz_X10_seenAt 19 "java/util/NoSuchElementException" := ⟨rfl, 113, 339, 117, List.mem_of_getElem? (i := 3) rfl, rz_good (i := 776) rfl rfl, ⟨_, List.mem_of_getElem? (i := 22) rfl⟩, by decide +kernel, by decide +kernel, Or.inr ⟨by decide +kernel, by decide +kernel, by decide +kernel⟩⟩
set_option maxRecDepth 100000 in
theorem txf_X10_leaps_37 : rz_txf mz_X10_leaps 37 "java/lang/IllegalArgumentException" := ⟨rfl, 121, 344, 125, List.mem_of_getElem? (i := 1) rfl, rz_good (i := 714) rfl rfl, ⟨_, List.mem_of_getElem? (i := 23) rfl⟩, by decide +kernel, by decide +kernel, Or.inr ⟨by decide +kernel, by decide +kernel, by decide +kernel⟩⟩
set_option maxRecDepth 100000 in
theorem txf_X10_leaps_67 : rz_txf mz_X10_leaps 67 "java/util/NoSuchElementException" := ⟨rfl, 113, 350, 117, List.mem_of_getElem? (i := 3) rfl, rz_good (i := 776) rfl rfl, ⟨_, List.mem_of_getElem? (i := 24) rfl⟩, by decide +kernel, by decide +kernel, Or.inr ⟨by decide +kernel, by decide +kernel, by decide +kernel⟩⟩
set_option maxRecDepth 100000 in
theorem txf_X10_termAt_18 : rz_txf mz_X10_termAt 18 "java/util/NoSuchElementException" := ⟨rfl, 113, 358, 117, List.mem_of_getElem? (i := 3) rfl, rz_good (i := 776) rfl rfl, ⟨_, List.mem_of_getElem? (i := 25) rfl⟩, by decide +kernel, by decide +kernel, Or.inr ⟨by decide +kernel, by decide +kernel, by decide +kernel⟩⟩
set_option maxRecDepth 100000 in
theorem txf_X10_hullAt_29 : rz_txf mz_X10_hullAt 29 "java/util/NoSuchElementException" := ⟨rfl, 113, 368, 117, List.mem_of_getElem? (i := 3) rfl, rz_good (i := 776) rfl rfl, ⟨_, List.mem_of_getElem? (i := 26) rfl⟩, by decide +kernel, by decide +kernel, Or.inr ⟨by decide +kernel, by decide +kernel, by decide +kernel⟩⟩
set_option maxRecDepth 100000 in
theorem txf_X10_checkSlot_10 : rz_txf mz_X10_checkSlot 10 "java/lang/IndexOutOfBoundsException" := ⟨rfl, 222, 403, 226, List.mem_of_getElem? (i := 0) rfl, rz_good (i := 641) rfl rfl, ⟨_, List.mem_of_getElem? (i := 0) rfl⟩, by decide +kernel, by decide +kernel, Or.inr ⟨by decide +kernel, by decide +kernel, by decide +kernel⟩⟩
set_option maxRecDepth 100000 in
theorem txf_X10_checkRange_10 : rz_txf mz_X10_checkRange 10 "java/lang/IllegalArgumentException" := ⟨rfl, 121, 405, 125, List.mem_of_getElem? (i := 1) rfl, rz_good (i := 714) rfl rfl, ⟨_, List.mem_of_getElem? (i := 1) rfl⟩, by decide +kernel, by decide +kernel, Or.inr ⟨by decide +kernel, by decide +kernel, by decide +kernel⟩⟩
set_option maxRecDepth 100000 in
theorem txf_X10_checkCoins_10 : rz_txf mz_X10_checkCoins 10 "java/lang/IllegalStateException" := ⟨rfl, 156, 410, 160, List.mem_of_getElem? (i := 4) rfl, rz_good (i := 842) rfl rfl, ⟨_, List.mem_of_getElem? (i := 13) rfl⟩, by decide +kernel, by decide +kernel, Or.inr ⟨by decide +kernel, by decide +kernel, by decide +kernel⟩⟩
set_option maxRecDepth 100000 in
theorem txf_X10_checkClosed_10 : rz_txf mz_X10_checkClosed 10 "java/lang/IllegalStateException" := ⟨rfl, 156, 416, 160, List.mem_of_getElem? (i := 4) rfl, rz_good (i := 842) rfl rfl, ⟨_, List.mem_of_getElem? (i := 19) rfl⟩, by decide +kernel, by decide +kernel, Or.inr ⟨by decide +kernel, by decide +kernel, by decide +kernel⟩⟩
set_option maxRecDepth 100000 in
theorem txf_X10_gridIn_25 : rz_txf mz_X10_gridIn 25 "java/util/NoSuchElementException" := ⟨rfl, 113, 418, 117, List.mem_of_getElem? (i := 3) rfl, rz_good (i := 776) rfl rfl, ⟨_, List.mem_of_getElem? (i := 5) rfl⟩, by decide +kernel, by decide +kernel, Or.inr ⟨by decide +kernel, by decide +kernel, by decide +kernel⟩⟩
set_option maxRecDepth 100000 in
theorem ef_X0_init : rz_ef mz_X0_init := ⟨fun _ h => absurd h List.not_mem_nil, trivial, Or.inl rfl⟩
set_option maxRecDepth 100000 in
theorem ef_X0_reduce : rz_ef mz_X0_reduce := ⟨fun _ h => absurd h List.not_mem_nil, trivial, Or.inl rfl⟩
set_option maxRecDepth 100000 in
theorem ef_X0_swap : rz_ef mz_X0_swap := ⟨fun _ h => absurd h List.not_mem_nil, trivial, Or.inl rfl⟩
set_option maxRecDepth 100000 in
theorem ef_X0_product : rz_ef mz_X0_product := ⟨fun _ h => absurd h List.not_mem_nil, trivial, Or.inl rfl⟩
set_option maxRecDepth 100000 in
theorem ef_X0_turn : rz_ef mz_X0_turn := ⟨fun _ h => absurd h List.not_mem_nil, trivial, Or.inl rfl⟩
set_option maxRecDepth 100000 in
theorem ef_X0_seek : rz_ef mz_X0_seek := ⟨fun _ h => absurd h List.not_mem_nil, trivial, Or.inl rfl⟩
set_option maxRecDepth 100000 in
theorem ef_X0_compare : rz_ef mz_X0_compare := ⟨fun _ h => absurd h List.not_mem_nil, trivial, Or.inl rfl⟩
set_option maxRecDepth 100000 in
theorem ef_X1_init : rz_ef mz_X1_init := ⟨fun _ h => absurd h List.not_mem_nil, trivial, Or.inl rfl⟩
set_option maxRecDepth 100000 in
theorem ef_X1_draw : rz_ef mz_X1_draw := ⟨fun _ h => absurd h List.not_mem_nil, trivial, Or.inl rfl⟩
set_option maxRecDepth 100000 in
theorem ef_X1_put : rz_ef mz_X1_put := ⟨fun _ h => absurd h List.not_mem_nil, trivial, Or.inl rfl⟩
set_option maxRecDepth 100000 in
theorem ef_X1_findFirst : rz_ef mz_X1_findFirst := ⟨fun _ h => absurd h List.not_mem_nil, trivial, Or.inl rfl⟩
set_option maxRecDepth 100000 in
theorem ef_X1_overX : rz_ef mz_X1_overX := ⟨fun _ h => absurd h List.not_mem_nil, trivial, Or.inl rfl⟩
set_option maxRecDepth 100000 in
theorem ef_X1_overY : rz_ef mz_X1_overY := ⟨fun _ h => absurd h List.not_mem_nil, trivial, Or.inl rfl⟩
set_option maxRecDepth 100000 in
theorem ef_X1_placeOfCorner : rz_ef mz_X1_placeOfCorner := ⟨fun _ h => absurd h List.not_mem_nil, trivial, Or.inl rfl⟩
set_option maxRecDepth 100000 in
theorem ef_X2_init : rz_ef mz_X2_init := ⟨fun _ h => absurd h List.not_mem_nil, trivial, Or.inl rfl⟩
set_option maxRecDepth 100000 in
theorem ef_X2_cutAll : rz_ef mz_X2_cutAll := ⟨fun _ h => absurd h List.not_mem_nil, trivial, Or.inl rfl⟩
set_option maxRecDepth 100000 in
theorem ef_X2_cutFirst : rz_ef mz_X2_cutFirst := ⟨fun _ h => absurd h List.not_mem_nil, trivial, Or.inl rfl⟩
set_option maxRecDepth 100000 in
theorem ef_X2_leftAt : rz_ef mz_X2_leftAt := ⟨fun _ h => absurd h List.not_mem_nil, trivial, Or.inl rfl⟩
set_option maxRecDepth 100000 in
theorem ef_X2_remove : rz_ef mz_X2_remove := ⟨fun _ h => absurd h List.not_mem_nil, trivial, Or.inl rfl⟩
set_option maxRecDepth 100000 in
theorem ef_X2_keep : rz_ef mz_X2_keep := ⟨fun _ h => absurd h List.not_mem_nil, trivial, Or.inl rfl⟩
set_option maxRecDepth 100000 in
theorem ef_X2_isEar : rz_ef mz_X2_isEar := ⟨fun _ h => absurd h List.not_mem_nil, trivial, Or.inl rfl⟩
set_option maxRecDepth 100000 in
theorem ef_X2_cornerOf : rz_ef mz_X2_cornerOf := ⟨fun _ h => absurd h List.not_mem_nil, trivial, Or.inl rfl⟩
set_option maxRecDepth 100000 in
theorem ef_X3_init : rz_ef mz_X3_init := ⟨fun _ h => absurd h List.not_mem_nil, trivial, Or.inl rfl⟩
set_option maxRecDepth 100000 in
theorem ef_X3_generated : rz_ef mz_X3_generated := ⟨fun _ h => absurd h List.not_mem_nil, trivial, Or.inl rfl⟩
set_option maxRecDepth 100000 in
theorem ef_X3_ofMultiples : rz_ef mz_X3_ofMultiples := ⟨fun _ h => absurd h List.not_mem_nil, trivial, Or.inl rfl⟩
set_option maxRecDepth 100000 in
theorem ef_X3_ranked : rz_ef mz_X3_ranked := ⟨fun _ h => absurd h List.not_mem_nil, trivial, Or.inl rfl⟩
set_option maxRecDepth 100000 in
theorem ef_X3_joinOf : rz_ef mz_X3_joinOf := ⟨fun _ h => absurd h List.not_mem_nil, trivial, Or.inl rfl⟩
set_option maxRecDepth 100000 in
theorem ef_X3_meetWidth : rz_ef mz_X3_meetWidth := ⟨fun _ h => absurd h List.not_mem_nil, trivial, Or.inl rfl⟩
set_option maxRecDepth 100000 in
theorem ef_X3_meetHeight : rz_ef mz_X3_meetHeight := ⟨fun _ h => absurd h List.not_mem_nil, trivial, Or.inl rfl⟩
set_option maxRecDepth 100000 in
theorem ef_X3_meetIndex : rz_ef mz_X3_meetIndex := ⟨fun _ h => absurd h List.not_mem_nil, trivial, Or.inl rfl⟩
set_option maxRecDepth 100000 in
theorem ef_X3_meetOf : rz_ef mz_X3_meetOf := ⟨fun _ h => absurd h List.not_mem_nil, trivial, Or.inl rfl⟩
set_option maxRecDepth 100000 in
theorem ef_X3_index : rz_ef mz_X3_index := ⟨fun _ h => absurd h List.not_mem_nil, trivial, Or.inl rfl⟩
set_option maxRecDepth 100000 in
theorem ef_X3_contains : rz_ef mz_X3_contains := ⟨fun _ h => absurd h List.not_mem_nil, trivial, Or.inl rfl⟩
set_option maxRecDepth 100000 in
theorem ef_X3_isPartOf : rz_ef mz_X3_isPartOf := ⟨fun _ h => absurd h List.not_mem_nil, trivial, Or.inl rfl⟩
set_option maxRecDepth 100000 in
theorem ef_X3_countUpTo : rz_ef mz_X3_countUpTo := ⟨fun _ h => absurd h List.not_mem_nil, trivial, Or.inl rfl⟩
set_option maxRecDepth 100000 in
theorem ef_X3_classOf : rz_ef mz_X3_classOf := ⟨fun _ h => absurd h List.not_mem_nil, trivial, Or.inl rfl⟩
set_option maxRecDepth 100000 in
theorem ef_X4_init : rz_ef mz_X4_init := ⟨fun _ h => absurd h List.not_mem_nil, trivial, Or.inl rfl⟩
set_option maxRecDepth 100000 in
theorem ef_X4_build : rz_ef mz_X4_build := ⟨fun _ h => absurd h List.not_mem_nil, trivial, Or.inl rfl⟩
set_option maxRecDepth 100000 in
theorem ef_X4_lowest : rz_ef mz_X4_lowest := ⟨fun _ h => absurd h List.not_mem_nil, trivial, Or.inl rfl⟩
set_option maxRecDepth 100000 in
theorem ef_X4_add : rz_ef mz_X4_add := ⟨fun _ h => absurd h List.not_mem_nil, trivial, Or.inl rfl⟩
set_option maxRecDepth 100000 in
theorem ef_X4_xOf : rz_ef mz_X4_xOf := ⟨fun _ h => absurd h List.not_mem_nil, trivial, Or.inl rfl⟩
set_option maxRecDepth 100000 in
theorem ef_X4_yOf : rz_ef mz_X4_yOf := ⟨fun _ h => absurd h List.not_mem_nil, trivial, Or.inl rfl⟩
set_option maxRecDepth 100000 in
theorem ef_X4_turn : rz_ef mz_X4_turn := ⟨fun _ h => absurd h List.not_mem_nil, trivial, Or.inl rfl⟩
set_option maxRecDepth 100000 in
theorem ef_X4_bendsUp : rz_ef mz_X4_bendsUp := ⟨fun _ h => absurd h List.not_mem_nil, trivial, Or.inl rfl⟩
set_option maxRecDepth 100000 in
theorem ef_X4_liesBelowAll : rz_ef mz_X4_liesBelowAll := ⟨fun _ h => absurd h List.not_mem_nil, trivial, Or.inl rfl⟩
set_option maxRecDepth 100000 in
theorem ef_X5_init : rz_ef mz_X5_init := ⟨fun _ h => absurd h List.not_mem_nil, trivial, Or.inl rfl⟩
set_option maxRecDepth 100000 in
theorem ef_X5_countTo : rz_ef mz_X5_countTo := ⟨fun _ h => absurd h List.not_mem_nil, trivial, Or.inl rfl⟩
set_option maxRecDepth 100000 in
theorem ef_X5_leapFrom : rz_ef mz_X5_leapFrom := ⟨fun _ h => absurd h List.not_mem_nil, trivial, Or.inl rfl⟩
set_option maxRecDepth 100000 in
theorem ef_X5_comeTo : rz_ef mz_X5_comeTo := ⟨fun _ h => absurd h List.not_mem_nil, trivial, Or.inl rfl⟩
set_option maxRecDepth 100000 in
theorem ef_X5_placeOfPoint : rz_ef mz_X5_placeOfPoint := ⟨fun _ h => absurd h List.not_mem_nil, trivial, Or.inl rfl⟩
set_option maxRecDepth 100000 in
theorem ef_X6_init : rz_ef mz_X6_init := ⟨fun _ h => absurd h List.not_mem_nil, trivial, Or.inl rfl⟩
set_option maxRecDepth 100000 in
theorem ef_X6_type : rz_ef mz_X6_type := ⟨fun _ h => absurd h List.not_mem_nil, trivial, Or.inl rfl⟩
set_option maxRecDepth 100000 in
theorem ef_X6_takeAway : rz_ef mz_X6_takeAway := ⟨fun _ h => absurd h List.not_mem_nil, trivial, Or.inl rfl⟩
set_option maxRecDepth 100000 in
theorem ef_X6_shut : rz_ef mz_X6_shut := ⟨fun _ h => absurd h List.not_mem_nil, trivial, Or.inl rfl⟩
set_option maxRecDepth 100000 in
theorem ef_X6_xOf : rz_ef mz_X6_xOf := ⟨fun _ h => absurd h List.not_mem_nil, trivial, Or.inl rfl⟩
set_option maxRecDepth 100000 in
theorem ef_X6_yOf : rz_ef mz_X6_yOf := ⟨fun _ h => absurd h List.not_mem_nil, trivial, Or.inl rfl⟩
set_option maxRecDepth 100000 in
theorem ef_X6_after : rz_ef mz_X6_after := ⟨fun _ h => absurd h List.not_mem_nil, trivial, Or.inl rfl⟩
set_option maxRecDepth 100000 in
theorem ef_X6_turn : rz_ef mz_X6_turn := ⟨fun _ h => absurd h List.not_mem_nil, trivial, Or.inl rfl⟩
set_option maxRecDepth 100000 in
theorem ef_X6_signedArea : rz_ef mz_X6_signedArea := ⟨fun _ h => absurd h List.not_mem_nil, trivial, Or.inl rfl⟩
set_option maxRecDepth 100000 in
theorem ef_X6_twiceArea : rz_ef mz_X6_twiceArea := ⟨fun _ h => absurd h List.not_mem_nil, trivial, Or.inl rfl⟩
set_option maxRecDepth 100000 in
theorem ef_X6_rimPoints : rz_ef mz_X6_rimPoints := ⟨fun _ h => absurd h List.not_mem_nil, trivial, Or.inl rfl⟩
set_option maxRecDepth 100000 in
theorem ef_X6_isProper : rz_ef mz_X6_isProper := ⟨fun _ h => absurd h List.not_mem_nil, trivial, Or.inl rfl⟩
set_option maxRecDepth 100000 in
theorem ef_X6_foldsBack : rz_ef mz_X6_foldsBack := ⟨fun _ h => absurd h List.not_mem_nil, trivial, Or.inl rfl⟩
set_option maxRecDepth 100000 in
theorem ef_X6_sidesMeet : rz_ef mz_X6_sidesMeet := ⟨fun _ h => absurd h List.not_mem_nil, trivial, Or.inl rfl⟩
set_option maxRecDepth 100000 in
theorem ef_X6_isOn : rz_ef mz_X6_isOn := ⟨fun _ h => absurd h List.not_mem_nil, trivial, Or.inl rfl⟩
set_option maxRecDepth 100000 in
theorem ef_X6_crosses : rz_ef mz_X6_crosses := ⟨fun _ h => absurd h List.not_mem_nil, trivial, Or.inl rfl⟩
set_option maxRecDepth 100000 in
theorem ef_X6_placeOf : rz_ef mz_X6_placeOf := ⟨fun _ h => absurd h List.not_mem_nil, trivial, Or.inl rfl⟩
set_option maxRecDepth 100000 in
theorem ef_X6_findSidesAt : rz_ef mz_X6_findSidesAt := ⟨fun _ h => absurd h List.not_mem_nil, trivial, Or.inl rfl⟩
set_option maxRecDepth 100000 in
theorem ef_X6_placeInRow : rz_ef mz_X6_placeInRow := ⟨fun _ h => absurd h List.not_mem_nil, trivial, Or.inl rfl⟩
set_option maxRecDepth 100000 in
theorem ef_X6_turnsOneWay : rz_ef mz_X6_turnsOneWay := ⟨fun _ h => absurd h List.not_mem_nil, trivial, Or.inl rfl⟩
set_option maxRecDepth 100000 in
theorem ef_X6_isUpright : rz_ef mz_X6_isUpright := ⟨fun _ h => absurd h List.not_mem_nil, trivial, Or.inl rfl⟩
set_option maxRecDepth 100000 in
theorem ef_X6_fillsBy : rz_ef mz_X6_fillsBy := ⟨fun _ h => absurd h List.not_mem_nil, trivial, Or.inl rfl⟩
set_option maxRecDepth 100000 in
theorem ef_X6_isMarked : rz_ef mz_X6_isMarked := ⟨fun _ h => absurd h List.not_mem_nil, trivial, Or.inl rfl⟩
set_option maxRecDepth 100000 in
theorem ef_X6_hasSquare : rz_ef mz_X6_hasSquare := ⟨fun _ h => absurd h List.not_mem_nil, trivial, Or.inl rfl⟩
set_option maxRecDepth 100000 in
theorem ef_X6_least : rz_ef mz_X6_least := ⟨fun _ h => absurd h List.not_mem_nil, trivial, Or.inl rfl⟩
set_option maxRecDepth 100000 in
theorem ef_X6_greatest : rz_ef mz_X6_greatest := ⟨fun _ h => absurd h List.not_mem_nil, trivial, Or.inl rfl⟩
set_option maxRecDepth 100000 in
theorem ef_X6_countsAgree : rz_ef mz_X6_countsAgree := ⟨fun _ h => absurd h List.not_mem_nil, trivial, Or.inl rfl⟩
set_option maxRecDepth 100000 in
theorem ef_X6_addTo : rz_ef mz_X6_addTo := ⟨fun _ h => absurd h List.not_mem_nil, trivial, Or.inl rfl⟩
set_option maxRecDepth 100000 in
theorem ef_X7_init : rz_ef mz_X7_init := ⟨fun _ h => absurd h List.not_mem_nil, trivial, Or.inl rfl⟩
set_option maxRecDepth 100000 in
theorem ef_X7_areValues : rz_ef mz_X7_areValues := ⟨fun _ h => absurd h List.not_mem_nil, trivial, Or.inl rfl⟩
set_option maxRecDepth 100000 in
theorem ef_X7_isValue : rz_ef mz_X7_isValue := ⟨fun _ h => absurd h List.not_mem_nil, trivial, Or.inl rfl⟩
set_option maxRecDepth 100000 in
theorem ef_X7_take : rz_ef mz_X7_take := ⟨fun _ h => absurd h List.not_mem_nil, trivial, Or.inl rfl⟩
set_option maxRecDepth 100000 in
theorem ef_X7_addKind : rz_ef mz_X7_addKind := ⟨fun _ h => absurd h List.not_mem_nil, trivial, Or.inl rfl⟩
set_option maxRecDepth 100000 in
theorem ef_X7_countLacks : rz_ef mz_X7_countLacks := ⟨fun _ h => absurd h List.not_mem_nil, trivial, Or.inl rfl⟩
set_option maxRecDepth 100000 in
theorem ef_X7_lackOf : rz_ef mz_X7_lackOf := ⟨fun _ h => absurd h List.not_mem_nil, trivial, Or.inl rfl⟩
set_option maxRecDepth 100000 in
theorem ef_X7_leastCoins : rz_ef mz_X7_leastCoins := ⟨fun _ h => absurd h List.not_mem_nil, trivial, Or.inl rfl⟩
set_option maxRecDepth 100000 in
theorem ef_X7_wayCount : rz_ef mz_X7_wayCount := ⟨fun _ h => absurd h List.not_mem_nil, trivial, Or.inl rfl⟩
set_option maxRecDepth 100000 in
theorem ef_X7_addTo : rz_ef mz_X7_addTo := ⟨fun _ h => absurd h List.not_mem_nil, trivial, Or.inl rfl⟩
set_option maxRecDepth 100000 in
theorem ef_X7_lacksAreHalf : rz_ef mz_X7_lacksAreHalf := ⟨fun _ h => absurd h List.not_mem_nil, trivial, Or.inl rfl⟩
set_option maxRecDepth 100000 in
theorem ef_X8_init : rz_ef mz_X8_init := ⟨fun _ h => absurd h List.not_mem_nil, trivial, Or.inl rfl⟩
set_option maxRecDepth 100000 in
theorem ef_X8_fill : rz_ef mz_X8_fill := ⟨fun _ h => absurd h List.not_mem_nil, trivial, Or.inl rfl⟩
set_option maxRecDepth 100000 in
theorem ef_X8_add : rz_ef mz_X8_add := ⟨fun _ h => absurd h List.not_mem_nil, trivial, Or.inl rfl⟩
set_option maxRecDepth 100000 in
theorem ef_X8_isAhead : rz_ef mz_X8_isAhead := ⟨fun _ h => absurd h List.not_mem_nil, trivial, Or.inl rfl⟩
set_option maxRecDepth 100000 in
theorem ef_X8_xOf : rz_ef mz_X8_xOf := ⟨fun _ h => absurd h List.not_mem_nil, trivial, Or.inl rfl⟩
set_option maxRecDepth 100000 in
theorem ef_X8_yOf : rz_ef mz_X8_yOf := ⟨fun _ h => absurd h List.not_mem_nil, trivial, Or.inl rfl⟩
set_option maxRecDepth 100000 in
theorem ef_X8_firstAside : rz_ef mz_X8_firstAside := ⟨fun _ h => absurd h List.not_mem_nil, trivial, Or.inl rfl⟩
set_option maxRecDepth 100000 in
theorem ef_X9_init : rz_ef mz_X9_init := ⟨fun _ h => absurd h List.not_mem_nil, trivial, Or.inl rfl⟩
set_option maxRecDepth 100000 in
theorem ef_X9_sign : rz_ef mz_X9_sign := ⟨fun _ h => absurd h List.not_mem_nil, trivial, Or.inl rfl⟩
set_option maxRecDepth 100000 in
theorem ef_X9_becomeNumber : rz_ef mz_X9_becomeNumber := ⟨fun _ h => absurd h List.not_mem_nil, trivial, Or.inl rfl⟩
set_option maxRecDepth 100000 in
theorem ef_X9_becomeFraction : rz_ef mz_X9_becomeFraction := ⟨fun _ h => absurd h List.not_mem_nil, trivial, Or.inl rfl⟩
set_option maxRecDepth 100000 in
theorem ef_X9_becomeProductAndOne : rz_ef mz_X9_becomeProductAndOne := ⟨fun _ h => absurd h List.not_mem_nil, trivial, Or.inl rfl⟩
set_option maxRecDepth 100000 in
theorem ef_X9_putNumber : rz_ef mz_X9_putNumber := ⟨fun _ h => absurd h List.not_mem_nil, trivial, Or.inl rfl⟩
set_option maxRecDepth 100000 in
theorem ef_X9_putDigits : rz_ef mz_X9_putDigits := ⟨fun _ h => absurd h List.not_mem_nil, trivial, Or.inl rfl⟩
set_option maxRecDepth 100000 in
theorem ef_X9_putSign : rz_ef mz_X9_putSign := ⟨fun _ h => absurd h List.not_mem_nil, trivial, Or.inl rfl⟩
set_option maxRecDepth 100000 in
theorem ef_X9_addTo : rz_ef mz_X9_addTo := ⟨fun _ h => absurd h List.not_mem_nil, trivial, Or.inl rfl⟩
set_option maxRecDepth 100000 in
theorem ef_X10_init : rz_ef mz_X10_init := ⟨fun _ h => absurd h List.not_mem_nil, trivial, Or.inl rfl⟩
set_option maxRecDepth 100000 in
theorem ef_X10_spanned : rz_ef mz_X10_spanned := ⟨List.forall_mem_cons.mpr ⟨txf_X10_spanned_67, fun _ h => absurd h List.not_mem_nil⟩, trivial, Or.inr rfl⟩
set_option maxRecDepth 100000 in
theorem ef_X10_remainder : rz_ef mz_X10_remainder := ⟨fun _ h => absurd h List.not_mem_nil, trivial, Or.inl rfl⟩
set_option maxRecDepth 100000 in
theorem ef_X10_nth : rz_ef mz_X10_nth := ⟨List.forall_mem_cons.mpr ⟨txf_X10_nth_24, fun _ h => absurd h List.not_mem_nil⟩, trivial, Or.inr rfl⟩
set_option maxRecDepth 100000 in
theorem ef_X10_grids : rz_ef mz_X10_grids := ⟨fun _ h => absurd h List.not_mem_nil, trivial, Or.inl rfl⟩
set_option maxRecDepth 100000 in
theorem ef_X10_form : rz_ef mz_X10_form := ⟨List.forall_mem_cons.mpr ⟨txf_X10_form_22, fun _ h => absurd h List.not_mem_nil⟩, trivial, Or.inr rfl⟩
set_option maxRecDepth 100000 in
theorem ef_X10_has : rz_ef mz_X10_has := ⟨fun _ h => absurd h List.not_mem_nil, trivial, Or.inl rfl⟩
set_option maxRecDepth 100000 in
theorem ef_X10_isSame : rz_ef mz_X10_isSame := ⟨fun _ h => absurd h List.not_mem_nil, trivial, Or.inl rfl⟩
set_option maxRecDepth 100000 in
theorem ef_X10_parts : rz_ef mz_X10_parts := ⟨List.forall_mem_cons.mpr ⟨txf_X10_parts_39, fun _ h => absurd h List.not_mem_nil⟩, trivial, Or.inr rfl⟩
set_option maxRecDepth 100000 in
theorem ef_X10_meet : rz_ef mz_X10_meet := ⟨List.forall_mem_cons.mpr ⟨txf_X10_meet_40, fun _ h => absurd h List.not_mem_nil⟩, trivial, Or.inr rfl⟩
set_option maxRecDepth 100000 in
theorem ef_X10_join : rz_ef mz_X10_join := ⟨fun _ h => absurd h List.not_mem_nil, trivial, Or.inl rfl⟩
set_option maxRecDepth 100000 in
theorem ef_X10_undo : rz_ef mz_X10_undo := ⟨List.forall_mem_cons.mpr ⟨txf_X10_undo_17, fun _ h => absurd h List.not_mem_nil⟩, trivial, Or.inr rfl⟩
set_option maxRecDepth 100000 in
theorem ef_X10_stepX : rz_ef mz_X10_stepX := ⟨fun _ h => absurd h List.not_mem_nil, trivial, Or.inl rfl⟩
set_option maxRecDepth 100000 in
theorem ef_X10_stepY : rz_ef mz_X10_stepY := ⟨fun _ h => absurd h List.not_mem_nil, trivial, Or.inl rfl⟩
set_option maxRecDepth 100000 in
theorem ef_X10_second : rz_ef mz_X10_second := ⟨fun _ h => absurd h List.not_mem_nil, trivial, Or.inl rfl⟩
set_option maxRecDepth 100000 in
theorem ef_X10_steps : rz_ef mz_X10_steps := ⟨fun _ h => absurd h List.not_mem_nil, trivial, Or.inl rfl⟩
set_option maxRecDepth 100000 in
theorem ef_X10_nearX : rz_ef mz_X10_nearX := ⟨fun _ h => absurd h List.not_mem_nil, trivial, Or.inl rfl⟩
set_option maxRecDepth 100000 in
theorem ef_X10_nearY : rz_ef mz_X10_nearY := ⟨fun _ h => absurd h List.not_mem_nil, trivial, Or.inl rfl⟩
set_option maxRecDepth 100000 in
theorem ef_X10_corners : rz_ef mz_X10_corners := ⟨fun _ h => absurd h List.not_mem_nil, trivial, Or.inl rfl⟩
set_option maxRecDepth 100000 in
theorem ef_X10_tellCorner : rz_ef mz_X10_tellCorner := ⟨List.forall_mem_cons.mpr ⟨txf_X10_tellCorner_28, fun _ h => absurd h List.not_mem_nil⟩, trivial, Or.inr rfl⟩
set_option maxRecDepth 100000 in
theorem ef_X10_signAt : rz_ef mz_X10_signAt := ⟨List.forall_mem_cons.mpr ⟨txf_X10_signAt_15, fun _ h => absurd h List.not_mem_nil⟩, trivial, Or.inr rfl⟩
set_option maxRecDepth 100000 in
theorem ef_X10_coins : rz_ef mz_X10_coins := ⟨List.forall_mem_cons.mpr ⟨txf_X10_coins_11, List.forall_mem_cons.mpr ⟨txf_X10_coins_44, fun _ h => absurd h List.not_mem_nil⟩⟩, trivial, Or.inr rfl⟩
set_option maxRecDepth 100000 in
theorem ef_X10_lacks : rz_ef mz_X10_lacks := ⟨fun _ h => absurd h List.not_mem_nil, trivial, Or.inl rfl⟩
set_option maxRecDepth 100000 in
theorem ef_X10_lackAt : rz_ef mz_X10_lackAt := ⟨List.forall_mem_cons.mpr ⟨txf_X10_lackAt_19, fun _ h => absurd h List.not_mem_nil⟩, trivial, Or.inr rfl⟩
set_option maxRecDepth 100000 in
theorem ef_X10_canMake : rz_ef mz_X10_canMake := ⟨fun _ h => absurd h List.not_mem_nil, trivial, Or.inl rfl⟩
set_option maxRecDepth 100000 in
theorem ef_X10_fewest : rz_ef mz_X10_fewest := ⟨List.forall_mem_cons.mpr ⟨txf_X10_fewest_25, fun _ h => absurd h List.not_mem_nil⟩, trivial, Or.inr rfl⟩
set_option maxRecDepth 100000 in
theorem ef_X10_ways : rz_ef mz_X10_ways := ⟨fun _ h => absurd h List.not_mem_nil, trivial, Or.inl rfl⟩
set_option maxRecDepth 100000 in
theorem ef_X10_corner : rz_ef mz_X10_corner := ⟨List.forall_mem_cons.mpr ⟨txf_X10_corner_28, fun _ h => absurd h List.not_mem_nil⟩, trivial, Or.inr rfl⟩
set_option maxRecDepth 100000 in
theorem ef_X10_clear : rz_ef mz_X10_clear := ⟨fun _ h => absurd h List.not_mem_nil, trivial, Or.inl rfl⟩
set_option maxRecDepth 100000 in
theorem ef_X10_close : rz_ef mz_X10_close := ⟨List.forall_mem_cons.mpr ⟨txf_X10_close_11, List.forall_mem_cons.mpr ⟨txf_X10_close_32, fun _ h => absurd h List.not_mem_nil⟩⟩, trivial, Or.inr rfl⟩
set_option maxRecDepth 100000 in
theorem ef_X10_rim : rz_ef mz_X10_rim := ⟨fun _ h => absurd h List.not_mem_nil, trivial, Or.inl rfl⟩
set_option maxRecDepth 100000 in
theorem ef_X10_within : rz_ef mz_X10_within := ⟨fun _ h => absurd h List.not_mem_nil, trivial, Or.inl rfl⟩
set_option maxRecDepth 100000 in
theorem ef_X10_where : rz_ef mz_X10_where := ⟨fun _ h => absurd h List.not_mem_nil, trivial, Or.inl rfl⟩
set_option maxRecDepth 100000 in
theorem ef_X10_isConvex : rz_ef mz_X10_isConvex := ⟨fun _ h => absurd h List.not_mem_nil, trivial, Or.inl rfl⟩
set_option maxRecDepth 100000 in
theorem ef_X10_grown : rz_ef mz_X10_grown := ⟨fun _ h => absurd h List.not_mem_nil, trivial, Or.inl rfl⟩
set_option maxRecDepth 100000 in
theorem ef_X10_triangleAt : rz_ef mz_X10_triangleAt := ⟨List.forall_mem_cons.mpr ⟨txf_X10_triangleAt_30, fun _ h => absurd h List.not_mem_nil⟩, trivial, Or.inr rfl⟩
set_option maxRecDepth 100000 in
theorem ef_X10_tiles : rz_ef mz_X10_tiles := ⟨List.forall_mem_cons.mpr ⟨txf_X10_tiles_24, fun _ h => absurd h List.not_mem_nil⟩, trivial, Or.inr rfl⟩
set_option maxRecDepth 100000 in
theorem ef_X10_seen : rz_ef mz_X10_seen := ⟨fun _ h => absurd h List.not_mem_nil, trivial, Or.inl rfl⟩
set_option maxRecDepth 100000 in
theorem ef_X10_seenAt : rz_ef mz_X10_seenAt := ⟨List.forall_mem_cons.mpr ⟨txf_X10_seenAt_19, fun _ h => absurd h List.not_mem_nil⟩, trivial, Or.inr rfl⟩
set_option maxRecDepth 100000 in
theorem ef_X10_leaps : rz_ef mz_X10_leaps := ⟨List.forall_mem_cons.mpr ⟨txf_X10_leaps_37, List.forall_mem_cons.mpr ⟨txf_X10_leaps_67, fun _ h => absurd h List.not_mem_nil⟩⟩, trivial, Or.inr rfl⟩
set_option maxRecDepth 100000 in
theorem ef_X10_terms : rz_ef mz_X10_terms := ⟨fun _ h => absurd h List.not_mem_nil, trivial, Or.inl rfl⟩
set_option maxRecDepth 100000 in
theorem ef_X10_termAt : rz_ef mz_X10_termAt := ⟨List.forall_mem_cons.mpr ⟨txf_X10_termAt_18, fun _ h => absurd h List.not_mem_nil⟩, trivial, Or.inr rfl⟩
set_option maxRecDepth 100000 in
theorem ef_X10_hull : rz_ef mz_X10_hull := ⟨fun _ h => absurd h List.not_mem_nil, trivial, Or.inl rfl⟩
set_option maxRecDepth 100000 in
theorem ef_X10_hullAt : rz_ef mz_X10_hullAt := ⟨List.forall_mem_cons.mpr ⟨txf_X10_hullAt_29, fun _ h => absurd h List.not_mem_nil⟩, trivial, Or.inr rfl⟩
set_option maxRecDepth 100000 in
theorem ef_X10_held : rz_ef mz_X10_held := ⟨fun _ h => absurd h List.not_mem_nil, trivial, Or.inl rfl⟩
set_option maxRecDepth 100000 in
theorem ef_X10_checksum : rz_ef mz_X10_checksum := ⟨fun _ h => absurd h List.not_mem_nil, trivial, Or.inl rfl⟩
set_option maxRecDepth 100000 in
theorem ef_X10_isSound : rz_ef mz_X10_isSound := ⟨fun _ h => absurd h List.not_mem_nil, trivial, Or.inl rfl⟩
set_option maxRecDepth 100000 in
theorem ef_X10_checkSlot : rz_ef mz_X10_checkSlot := ⟨List.forall_mem_cons.mpr ⟨txf_X10_checkSlot_10, fun _ h => absurd h List.not_mem_nil⟩, trivial, Or.inr rfl⟩
set_option maxRecDepth 100000 in
theorem ef_X10_checkRange : rz_ef mz_X10_checkRange := ⟨List.forall_mem_cons.mpr ⟨txf_X10_checkRange_10, fun _ h => absurd h List.not_mem_nil⟩, trivial, Or.inr rfl⟩
set_option maxRecDepth 100000 in
theorem ef_X10_checkFraction : rz_ef mz_X10_checkFraction := ⟨fun _ h => absurd h List.not_mem_nil, trivial, Or.inl rfl⟩
set_option maxRecDepth 100000 in
theorem ef_X10_checkCoins : rz_ef mz_X10_checkCoins := ⟨List.forall_mem_cons.mpr ⟨txf_X10_checkCoins_10, fun _ h => absurd h List.not_mem_nil⟩, trivial, Or.inr rfl⟩
set_option maxRecDepth 100000 in
theorem ef_X10_checkClosed : rz_ef mz_X10_checkClosed := ⟨List.forall_mem_cons.mpr ⟨txf_X10_checkClosed_10, fun _ h => absurd h List.not_mem_nil⟩, trivial, Or.inr rfl⟩
set_option maxRecDepth 100000 in
theorem ef_X10_gridIn : rz_ef mz_X10_gridIn := ⟨List.forall_mem_cons.mpr ⟨txf_X10_gridIn_25, fun _ h => absurd h List.not_mem_nil⟩, trivial, Or.inr rfl⟩
set_option maxRecDepth 100000 in
theorem ef_X10_become : rz_ef mz_X10_become := ⟨fun _ h => absurd h List.not_mem_nil, trivial, Or.inl rfl⟩
set_option maxRecDepth 100000 in
theorem ef_X10_forgetOldest : rz_ef mz_X10_forgetOldest := ⟨fun _ h => absurd h List.not_mem_nil, trivial, Or.inl rfl⟩
set_option maxRecDepth 100000 in
theorem ef_X10_listSteps : rz_ef mz_X10_listSteps := ⟨fun _ h => absurd h List.not_mem_nil, trivial, Or.inl rfl⟩
set_option maxRecDepth 100000 in
theorem ef_X10_drawCell : rz_ef mz_X10_drawCell := ⟨fun _ h => absurd h List.not_mem_nil, trivial, Or.inl rfl⟩
set_option maxRecDepth 100000 in
theorem ef_X10_seekNearest : rz_ef mz_X10_seekNearest := ⟨fun _ h => absurd h List.not_mem_nil, trivial, Or.inl rfl⟩
set_option maxRecDepth 100000 in
theorem ef_X10_gcd : rz_ef mz_X10_gcd := ⟨fun _ h => absurd h List.not_mem_nil, trivial, Or.inl rfl⟩
set_option maxRecDepth 100000 in
theorem ef_X10_countTerms : rz_ef mz_X10_countTerms := ⟨fun _ h => absurd h List.not_mem_nil, trivial, Or.inl rfl⟩
set_option maxRecDepth 100000 in
theorem ef_X10_findTerm : rz_ef mz_X10_findTerm := ⟨fun _ h => absurd h List.not_mem_nil, trivial, Or.inl rfl⟩
set_option maxRecDepth 100000 in
theorem ef_X10_countSeen : rz_ef mz_X10_countSeen := ⟨fun _ h => absurd h List.not_mem_nil, trivial, Or.inl rfl⟩
set_option maxRecDepth 100000 in
theorem ef_X10_findSeen : rz_ef mz_X10_findSeen := ⟨fun _ h => absurd h List.not_mem_nil, trivial, Or.inl rfl⟩
set_option maxRecDepth 100000 in
theorem ef_X10_leastStepsSpan : rz_ef mz_X10_leastStepsSpan := ⟨fun _ h => absurd h List.not_mem_nil, trivial, Or.inl rfl⟩
set_option maxRecDepth 100000 in
theorem ef_X10_indexesAgree : rz_ef mz_X10_indexesAgree := ⟨fun _ h => absurd h List.not_mem_nil, trivial, Or.inl rfl⟩
set_option maxRecDepth 100000 in
theorem ef_X10_polygonAgrees : rz_ef mz_X10_polygonAgrees := ⟨fun _ h => absurd h List.not_mem_nil, trivial, Or.inl rfl⟩
set_option maxRecDepth 100000 in
theorem ef_X10_seenNeighboursSpan : rz_ef mz_X10_seenNeighboursSpan := ⟨fun _ h => absurd h List.not_mem_nil, trivial, Or.inl rfl⟩
set_option maxRecDepth 100000 in
theorem ef_X10_hullIsLowest : rz_ef mz_X10_hullIsLowest := ⟨fun _ h => absurd h List.not_mem_nil, trivial, Or.inl rfl⟩
set_option maxRecDepth 100000 in
theorem ef_X11_init : rz_ef mz_X11_init := ⟨fun _ h => absurd h List.not_mem_nil, trivial, Or.inl rfl⟩
set_option maxRecDepth 100000 in
theorem ef_X11_thrown : rz_ef mz_X11_thrown := ⟨fun _ h => absurd h List.not_mem_nil, trivial, Or.inl rfl⟩
set_option maxRecDepth 100000 in
theorem ef_X11_no : rz_ef mz_X11_no := ⟨fun _ h => absurd h List.not_mem_nil, trivial, Or.inl rfl⟩
set_option maxRecDepth 100000 in
theorem ef_X11_in : rz_ef mz_X11_in := ⟨fun _ h => absurd h List.not_mem_nil, trivial, Or.inl rfl⟩
set_option maxRecDepth 100000 in
theorem ef_X11_isSlot : rz_ef mz_X11_isSlot := ⟨fun _ h => absurd h List.not_mem_nil, trivial, Or.inl rfl⟩
set_option maxRecDepth 100000 in
theorem ef_X11_gcd : rz_ef mz_X11_gcd := ⟨fun _ h => absurd h List.not_mem_nil, trivial, Or.inl rfl⟩
set_option maxRecDepth 100000 in
theorem ef_X11_mod : rz_ef mz_X11_mod := ⟨fun _ h => absurd h List.not_mem_nil, trivial, Or.inl rfl⟩
set_option maxRecDepth 100000 in
theorem ef_X11_becomes : rz_ef mz_X11_becomes := ⟨fun _ h => absurd h List.not_mem_nil, trivial, Or.inl rfl⟩
set_option maxRecDepth 100000 in
theorem ef_X11_highOf : rz_ef mz_X11_highOf := ⟨fun _ h => absurd h List.not_mem_nil, trivial, Or.inl rfl⟩
set_option maxRecDepth 100000 in
theorem ef_X11_spanned : rz_ef mz_X11_spanned := ⟨fun _ h => absurd h List.not_mem_nil, trivial, Or.inl rfl⟩
set_option maxRecDepth 100000 in
theorem ef_X11_remainder : rz_ef mz_X11_remainder := ⟨fun _ h => absurd h List.not_mem_nil, trivial, Or.inl rfl⟩
set_option maxRecDepth 100000 in
theorem ef_X11_nth : rz_ef mz_X11_nth := ⟨fun _ h => absurd h List.not_mem_nil, trivial, Or.inl rfl⟩
set_option maxRecDepth 100000 in
theorem ef_X11_grids : rz_ef mz_X11_grids := ⟨fun _ h => absurd h List.not_mem_nil, trivial, Or.inl rfl⟩
set_option maxRecDepth 100000 in
theorem ef_X11_lacks : rz_ef mz_X11_lacks := ⟨fun _ h => absurd h List.not_mem_nil, trivial, Or.inl rfl⟩
set_option maxRecDepth 100000 in
theorem ef_X11_lackBoth : rz_ef mz_X11_lackBoth := ⟨fun _ h => absurd h List.not_mem_nil, trivial, Or.inl rfl⟩
set_option maxRecDepth 100000 in
theorem ef_X11_form : rz_ef mz_X11_form := ⟨fun _ h => absurd h List.not_mem_nil, trivial, Or.inl rfl⟩
set_option maxRecDepth 100000 in
theorem ef_X11_hasIt : rz_ef mz_X11_hasIt := ⟨fun _ h => absurd h List.not_mem_nil, trivial, Or.inl rfl⟩
set_option maxRecDepth 100000 in
theorem ef_X11_has : rz_ef mz_X11_has := ⟨fun _ h => absurd h List.not_mem_nil, trivial, Or.inl rfl⟩
set_option maxRecDepth 100000 in
theorem ef_X11_isWithin : rz_ef mz_X11_isWithin := ⟨fun _ h => absurd h List.not_mem_nil, trivial, Or.inl rfl⟩
set_option maxRecDepth 100000 in
theorem ef_X11_isSame : rz_ef mz_X11_isSame := ⟨fun _ h => absurd h List.not_mem_nil, trivial, Or.inl rfl⟩
set_option maxRecDepth 100000 in
theorem ef_X11_parts : rz_ef mz_X11_parts := ⟨fun _ h => absurd h List.not_mem_nil, trivial, Or.inl rfl⟩
set_option maxRecDepth 100000 in
theorem ef_X11_lackAll : rz_ef mz_X11_lackAll := ⟨fun _ h => absurd h List.not_mem_nil, trivial, Or.inl rfl⟩
set_option maxRecDepth 100000 in
theorem ef_X11_meet : rz_ef mz_X11_meet := ⟨fun _ h => absurd h List.not_mem_nil, trivial, Or.inl rfl⟩
set_option maxRecDepth 100000 in
theorem ef_X11_join : rz_ef mz_X11_join := ⟨fun _ h => absurd h List.not_mem_nil, trivial, Or.inl rfl⟩
set_option maxRecDepth 100000 in
theorem ef_X11_undo : rz_ef mz_X11_undo := ⟨fun _ h => absurd h List.not_mem_nil, trivial, Or.inl rfl⟩
set_option maxRecDepth 100000 in
theorem ef_X11_times : rz_ef mz_X11_times := ⟨fun _ h => absurd h List.not_mem_nil, trivial, Or.inl rfl⟩
set_option maxRecDepth 100000 in
theorem ef_X11_floor : rz_ef mz_X11_floor := ⟨fun _ h => absurd h List.not_mem_nil, trivial, Or.inl rfl⟩
set_option maxRecDepth 100000 in
theorem ef_X11_shortOf : rz_ef mz_X11_shortOf := ⟨fun _ h => absurd h List.not_mem_nil, trivial, Or.inl rfl⟩
set_option maxRecDepth 100000 in
theorem ef_X11_isTold : rz_ef mz_X11_isTold := ⟨fun _ h => absurd h List.not_mem_nil, trivial, Or.inl rfl⟩
set_option maxRecDepth 100000 in
theorem ef_X11_isAhead : rz_ef mz_X11_isAhead := ⟨fun _ h => absurd h List.not_mem_nil, trivial, Or.inl rfl⟩
set_option maxRecDepth 100000 in
theorem ef_X11_stepsOf : rz_ef mz_X11_stepsOf := ⟨fun _ h => absurd h List.not_mem_nil, trivial, Or.inl rfl⟩
set_option maxRecDepth 100000 in
theorem ef_X11_lacksStep : rz_ef mz_X11_lacksStep := ⟨fun _ h => absurd h List.not_mem_nil, trivial, Or.inl rfl⟩
set_option maxRecDepth 100000 in
theorem ef_X11_stepX : rz_ef mz_X11_stepX := ⟨fun _ h => absurd h List.not_mem_nil, trivial, Or.inl rfl⟩
set_option maxRecDepth 100000 in
theorem ef_X11_stepY : rz_ef mz_X11_stepY := ⟨fun _ h => absurd h List.not_mem_nil, trivial, Or.inl rfl⟩
set_option maxRecDepth 100000 in
theorem ef_X11_second : rz_ef mz_X11_second := ⟨fun _ h => absurd h List.not_mem_nil, trivial, Or.inl rfl⟩
set_option maxRecDepth 100000 in
theorem ef_X11_steps : rz_ef mz_X11_steps := ⟨fun _ h => absurd h List.not_mem_nil, trivial, Or.inl rfl⟩
set_option maxRecDepth 100000 in
theorem ef_X11_nearest : rz_ef mz_X11_nearest := ⟨fun _ h => absurd h List.not_mem_nil, trivial, Or.inl rfl⟩
set_option maxRecDepth 100000 in
theorem ef_X11_lacksNear : rz_ef mz_X11_lacksNear := ⟨fun _ h => absurd h List.not_mem_nil, trivial, Or.inl rfl⟩
set_option maxRecDepth 100000 in
theorem ef_X11_nearX : rz_ef mz_X11_nearX := ⟨fun _ h => absurd h List.not_mem_nil, trivial, Or.inl rfl⟩
set_option maxRecDepth 100000 in
theorem ef_X11_nearY : rz_ef mz_X11_nearY := ⟨fun _ h => absurd h List.not_mem_nil, trivial, Or.inl rfl⟩
set_option maxRecDepth 100000 in
theorem ef_X11_around : rz_ef mz_X11_around := ⟨fun _ h => absurd h List.not_mem_nil, trivial, Or.inl rfl⟩
set_option maxRecDepth 100000 in
theorem ef_X11_corners : rz_ef mz_X11_corners := ⟨fun _ h => absurd h List.not_mem_nil, trivial, Or.inl rfl⟩
set_option maxRecDepth 100000 in
theorem ef_X11_cellOf : rz_ef mz_X11_cellOf := ⟨fun _ h => absurd h List.not_mem_nil, trivial, Or.inl rfl⟩
set_option maxRecDepth 100000 in
theorem ef_X11_adds : rz_ef mz_X11_adds := ⟨fun _ h => absurd h List.not_mem_nil, trivial, Or.inl rfl⟩
set_option maxRecDepth 100000 in
theorem ef_X11_addsNumber : rz_ef mz_X11_addsNumber := ⟨fun _ h => absurd h List.not_mem_nil, trivial, Or.inl rfl⟩
set_option maxRecDepth 100000 in
theorem ef_X11_tellCorner : rz_ef mz_X11_tellCorner := ⟨fun _ h => absurd h List.not_mem_nil, trivial, Or.inl rfl⟩
set_option maxRecDepth 100000 in
theorem ef_X11_signAt : rz_ef mz_X11_signAt := ⟨fun _ h => absurd h List.not_mem_nil, trivial, Or.inl rfl⟩
set_option maxRecDepth 100000 in
theorem ef_X11_fewestOf : rz_ef mz_X11_fewestOf := ⟨fun _ h => absurd h List.not_mem_nil, trivial, Or.inl rfl⟩
set_option maxRecDepth 100000 in
theorem ef_X11_coins : rz_ef mz_X11_coins := ⟨fun _ h => absurd h List.not_mem_nil, trivial, Or.inl rfl⟩
set_option maxRecDepth 100000 in
theorem ef_X11_lacksUpTo : rz_ef mz_X11_lacksUpTo := ⟨fun _ h => absurd h List.not_mem_nil, trivial, Or.inl rfl⟩
set_option maxRecDepth 100000 in
theorem ef_X11_lacks_ : rz_ef mz_X11_lacks_ := ⟨fun _ h => absurd h List.not_mem_nil, trivial, Or.inl rfl⟩
set_option maxRecDepth 100000 in
theorem ef_X11_lackAt : rz_ef mz_X11_lackAt := ⟨fun _ h => absurd h List.not_mem_nil, trivial, Or.inl rfl⟩
set_option maxRecDepth 100000 in
theorem ef_X11_canMake : rz_ef mz_X11_canMake := ⟨fun _ h => absurd h List.not_mem_nil, trivial, Or.inl rfl⟩
set_option maxRecDepth 100000 in
theorem ef_X11_fewest : rz_ef mz_X11_fewest := ⟨fun _ h => absurd h List.not_mem_nil, trivial, Or.inl rfl⟩
set_option maxRecDepth 100000 in
theorem ef_X11_ways : rz_ef mz_X11_ways := ⟨fun _ h => absurd h List.not_mem_nil, trivial, Or.inl rfl⟩
set_option maxRecDepth 100000 in
theorem ef_X11_corner : rz_ef mz_X11_corner := ⟨fun _ h => absurd h List.not_mem_nil, trivial, Or.inl rfl⟩
set_option maxRecDepth 100000 in
theorem ef_X11_clear : rz_ef mz_X11_clear := ⟨fun _ h => absurd h List.not_mem_nil, trivial, Or.inl rfl⟩
set_option maxRecDepth 100000 in
theorem ef_X11_after : rz_ef mz_X11_after := ⟨fun _ h => absurd h List.not_mem_nil, trivial, Or.inl rfl⟩
set_option maxRecDepth 100000 in
theorem ef_X11_turn : rz_ef mz_X11_turn := ⟨fun _ h => absurd h List.not_mem_nil, trivial, Or.inl rfl⟩
set_option maxRecDepth 100000 in
theorem ef_X11_isOn : rz_ef mz_X11_isOn := ⟨fun _ h => absurd h List.not_mem_nil, trivial, Or.inl rfl⟩
set_option maxRecDepth 100000 in
theorem ef_X11_doMeet : rz_ef mz_X11_doMeet := ⟨fun _ h => absurd h List.not_mem_nil, trivial, Or.inl rfl⟩
set_option maxRecDepth 100000 in
theorem ef_X11_isPolygon : rz_ef mz_X11_isPolygon := ⟨fun _ h => absurd h List.not_mem_nil, trivial, Or.inl rfl⟩
set_option maxRecDepth 100000 in
theorem ef_X11_areaTwice : rz_ef mz_X11_areaTwice := ⟨fun _ h => absurd h List.not_mem_nil, trivial, Or.inl rfl⟩
set_option maxRecDepth 100000 in
theorem ef_X11_close : rz_ef mz_X11_close := ⟨fun _ h => absurd h List.not_mem_nil, trivial, Or.inl rfl⟩
set_option maxRecDepth 100000 in
theorem ef_X11_rimIts : rz_ef mz_X11_rimIts := ⟨fun _ h => absurd h List.not_mem_nil, trivial, Or.inl rfl⟩
set_option maxRecDepth 100000 in
theorem ef_X11_rim : rz_ef mz_X11_rim := ⟨fun _ h => absurd h List.not_mem_nil, trivial, Or.inl rfl⟩
set_option maxRecDepth 100000 in
theorem ef_X11_isInside : rz_ef mz_X11_isInside := ⟨fun _ h => absurd h List.not_mem_nil, trivial, Or.inl rfl⟩
set_option maxRecDepth 100000 in
theorem ef_X11_whereIts : rz_ef mz_X11_whereIts := ⟨fun _ h => absurd h List.not_mem_nil, trivial, Or.inl rfl⟩
set_option maxRecDepth 100000 in
theorem ef_X11_where : rz_ef mz_X11_where := ⟨fun _ h => absurd h List.not_mem_nil, trivial, Or.inl rfl⟩
set_option maxRecDepth 100000 in
theorem ef_X11_within : rz_ef mz_X11_within := ⟨fun _ h => absurd h List.not_mem_nil, trivial, Or.inl rfl⟩
set_option maxRecDepth 100000 in
theorem ef_X11_isConvex : rz_ef mz_X11_isConvex := ⟨fun _ h => absurd h List.not_mem_nil, trivial, Or.inl rfl⟩
set_option maxRecDepth 100000 in
theorem ef_X11_grown : rz_ef mz_X11_grown := ⟨fun _ h => absurd h List.not_mem_nil, trivial, Or.inl rfl⟩
set_option maxRecDepth 100000 in
theorem ef_X11_isEar : rz_ef mz_X11_isEar := ⟨fun _ h => absurd h List.not_mem_nil, trivial, Or.inl rfl⟩
set_option maxRecDepth 100000 in
theorem ef_X11_triangleAt : rz_ef mz_X11_triangleAt := ⟨fun _ h => absurd h List.not_mem_nil, trivial, Or.inl rfl⟩
set_option maxRecDepth 100000 in
theorem ef_X11_tiles : rz_ef mz_X11_tiles := ⟨fun _ h => absurd h List.not_mem_nil, trivial, Or.inl rfl⟩
set_option maxRecDepth 100000 in
theorem ef_X11_seenOf : rz_ef mz_X11_seenOf := ⟨fun _ h => absurd h List.not_mem_nil, trivial, Or.inl rfl⟩
set_option maxRecDepth 100000 in
theorem ef_X11_manyOf : rz_ef mz_X11_manyOf := ⟨fun _ h => absurd h List.not_mem_nil, trivial, Or.inl rfl⟩
set_option maxRecDepth 100000 in
theorem ef_X11_seen : rz_ef mz_X11_seen := ⟨fun _ h => absurd h List.not_mem_nil, trivial, Or.inl rfl⟩
set_option maxRecDepth 100000 in
theorem ef_X11_seenAt : rz_ef mz_X11_seenAt := ⟨fun _ h => absurd h List.not_mem_nil, trivial, Or.inl rfl⟩
set_option maxRecDepth 100000 in
theorem ef_X11_leaps : rz_ef mz_X11_leaps := ⟨fun _ h => absurd h List.not_mem_nil, trivial, Or.inl rfl⟩
set_option maxRecDepth 100000 in
theorem ef_X11_areRight : rz_ef mz_X11_areRight := ⟨fun _ h => absurd h List.not_mem_nil, trivial, Or.inl rfl⟩
set_option maxRecDepth 100000 in
theorem ef_X11_termsOf : rz_ef mz_X11_termsOf := ⟨fun _ h => absurd h List.not_mem_nil, trivial, Or.inl rfl⟩
set_option maxRecDepth 100000 in
theorem ef_X11_manyTerms : rz_ef mz_X11_manyTerms := ⟨fun _ h => absurd h List.not_mem_nil, trivial, Or.inl rfl⟩
set_option maxRecDepth 100000 in
theorem ef_X11_terms : rz_ef mz_X11_terms := ⟨fun _ h => absurd h List.not_mem_nil, trivial, Or.inl rfl⟩
set_option maxRecDepth 100000 in
theorem ef_X11_termAt : rz_ef mz_X11_termAt := ⟨fun _ h => absurd h List.not_mem_nil, trivial, Or.inl rfl⟩
set_option maxRecDepth 100000 in
theorem ef_X11_lowest : rz_ef mz_X11_lowest := ⟨fun _ h => absurd h List.not_mem_nil, trivial, Or.inl rfl⟩
set_option maxRecDepth 100000 in
theorem ef_X11_hullOf : rz_ef mz_X11_hullOf := ⟨fun _ h => absurd h List.not_mem_nil, trivial, Or.inl rfl⟩
set_option maxRecDepth 100000 in
theorem ef_X11_manyHull : rz_ef mz_X11_manyHull := ⟨fun _ h => absurd h List.not_mem_nil, trivial, Or.inl rfl⟩
set_option maxRecDepth 100000 in
theorem ef_X11_hull : rz_ef mz_X11_hull := ⟨fun _ h => absurd h List.not_mem_nil, trivial, Or.inl rfl⟩
set_option maxRecDepth 100000 in
theorem ef_X11_hullAt : rz_ef mz_X11_hullAt := ⟨fun _ h => absurd h List.not_mem_nil, trivial, Or.inl rfl⟩
set_option maxRecDepth 100000 in
theorem ef_X11_held : rz_ef mz_X11_held := ⟨fun _ h => absurd h List.not_mem_nil, trivial, Or.inl rfl⟩
set_option maxRecDepth 100000 in
theorem ef_X11_checksum : rz_ef mz_X11_checksum := ⟨fun _ h => absurd h List.not_mem_nil, trivial, Or.inl rfl⟩
set_option maxRecDepth 100000 in
theorem ef_X11_isSound : rz_ef mz_X11_isSound := ⟨fun _ h => absurd h List.not_mem_nil, trivial, Or.inl rfl⟩
set_option maxRecDepth 100000 in
theorem ef_J9_floorDiv_7cf53 : rz_ef mz_J9_floorDiv_7cf53 := ⟨fun _ h => absurd h List.not_mem_nil, trivial, Or.inl rfl⟩
set_option maxRecDepth 100000 in
theorem ef_J9_floorDiv_f86c9 : rz_ef mz_J9_floorDiv_f86c9 := ⟨fun _ h => absurd h List.not_mem_nil, trivial, Or.inl rfl⟩
set_option maxRecDepth 100000 in
theorem ef_J9_floorMod_7cf53 : rz_ef mz_J9_floorMod_7cf53 := ⟨fun _ h => absurd h List.not_mem_nil, trivial, Or.inl rfl⟩
set_option maxRecDepth 100000 in
theorem ef_J9_floorMod_f86c9 : rz_ef mz_J9_floorMod_f86c9 := ⟨fun _ h => absurd h List.not_mem_nil, trivial, Or.inl rfl⟩
set_option maxRecDepth 100000 in
theorem ef_J9_abs_0f7a4 : rz_ef mz_J9_abs_0f7a4 := ⟨fun _ h => absurd h List.not_mem_nil, trivial, Or.inl rfl⟩
set_option maxRecDepth 100000 in
theorem ef_J9_abs_067f4 : rz_ef mz_J9_abs_067f4 := ⟨fun _ h => absurd h List.not_mem_nil, trivial, Or.inl rfl⟩
set_option maxRecDepth 100000 in
theorem ef_J9_max_7cf53 : rz_ef mz_J9_max_7cf53 := ⟨fun _ h => absurd h List.not_mem_nil, trivial, Or.inl rfl⟩
set_option maxRecDepth 100000 in
theorem ef_J9_max_f86c9 : rz_ef mz_J9_max_f86c9 := ⟨fun _ h => absurd h List.not_mem_nil, trivial, Or.inl rfl⟩
set_option maxRecDepth 100000 in
theorem ef_J9_min_7cf53 : rz_ef mz_J9_min_7cf53 := ⟨fun _ h => absurd h List.not_mem_nil, trivial, Or.inl rfl⟩
set_option maxRecDepth 100000 in
theorem ef_J9_min_f86c9 : rz_ef mz_J9_min_f86c9 := ⟨fun _ h => absurd h List.not_mem_nil, trivial, Or.inl rfl⟩
set_option maxRecDepth 100000 in
theorem ef_J7_fill_53178 : rz_ef mz_J7_fill_53178 := ⟨fun _ h => absurd h List.not_mem_nil, trivial, Or.inl rfl⟩
set_option maxRecDepth 100000 in
theorem ef_L_spanned : rz_ef mz_L_spanned := ⟨fun _ h => absurd h List.not_mem_nil, ⟨⟨rfl, rfl, by decide, by decide, List.mem_of_getElem? (i := 0) rfl, rz_good (i := 631) rfl rfl, Or.inl ⟨by decide +kernel, rfl⟩⟩, ⟨⟨rfl, rfl, by decide, by decide, List.mem_of_getElem? (i := 1) rfl, rz_good (i := 632) rfl rfl, Or.inl ⟨by decide +kernel, rfl⟩⟩, ⟨⟨rfl, rfl, by decide, by decide, List.mem_of_getElem? (i := 2) rfl, rz_good (i := 633) rfl rfl, Or.inl ⟨by decide +kernel, rfl⟩⟩, trivial⟩⟩⟩, Or.inl rfl⟩
set_option maxRecDepth 100000 in
theorem ef_L_remainder : rz_ef mz_L_remainder := ⟨fun _ h => absurd h List.not_mem_nil, ⟨⟨rfl, rfl, by decide, by decide, List.mem_of_getElem? (i := 0) rfl, rz_good (i := 631) rfl rfl, Or.inl ⟨by decide +kernel, rfl⟩⟩, ⟨⟨rfl, rfl, by decide, by decide, List.mem_of_getElem? (i := 1) rfl, rz_good (i := 632) rfl rfl, Or.inl ⟨by decide +kernel, rfl⟩⟩, trivial⟩⟩, Or.inl rfl⟩
set_option maxRecDepth 100000 in
theorem ef_L_nth : rz_ef mz_L_nth := ⟨fun _ h => absurd h List.not_mem_nil, ⟨⟨rfl, rfl, by decide, by decide, List.mem_of_getElem? (i := 0) rfl, rz_good (i := 631) rfl rfl, Or.inl ⟨by decide +kernel, rfl⟩⟩, ⟨⟨rfl, rfl, by decide, by decide, List.mem_of_getElem? (i := 1) rfl, rz_good (i := 632) rfl rfl, Or.inl ⟨by decide +kernel, rfl⟩⟩, ⟨⟨rfl, rfl, by decide, by decide, List.mem_of_getElem? (i := 3) rfl, rz_good (i := 768) rfl rfl, Or.inl ⟨by decide +kernel, rfl⟩⟩, trivial⟩⟩⟩, Or.inl rfl⟩
set_option maxRecDepth 100000 in
theorem ef_L_grids : rz_ef mz_L_grids := ⟨fun _ h => absurd h List.not_mem_nil, ⟨⟨rfl, rfl, by decide, by decide, List.mem_of_getElem? (i := 1) rfl, rz_good (i := 632) rfl rfl, Or.inr ⟨3, rfl, by decide +kernel, rfl⟩⟩, trivial⟩, Or.inl rfl⟩
set_option maxRecDepth 100000 in
theorem ef_L_form : rz_ef mz_L_form := ⟨fun _ h => absurd h List.not_mem_nil, ⟨⟨rfl, rfl, by decide, by decide, List.mem_of_getElem? (i := 0) rfl, rz_good (i := 631) rfl rfl, Or.inl ⟨by decide +kernel, rfl⟩⟩, ⟨⟨rfl, rfl, by decide, by decide, List.mem_of_getElem? (i := 1) rfl, rz_good (i := 632) rfl rfl, Or.inl ⟨by decide +kernel, rfl⟩⟩, ⟨⟨rfl, rfl, by decide, by decide, List.mem_of_getElem? (i := 3) rfl, rz_good (i := 768) rfl rfl, Or.inl ⟨by decide +kernel, rfl⟩⟩, trivial⟩⟩⟩, Or.inl rfl⟩
set_option maxRecDepth 100000 in
theorem ef_L_has : rz_ef mz_L_has := ⟨fun _ h => absurd h List.not_mem_nil, ⟨⟨rfl, rfl, by decide, by decide, List.mem_of_getElem? (i := 0) rfl, rz_good (i := 631) rfl rfl, Or.inl ⟨by decide +kernel, rfl⟩⟩, ⟨⟨rfl, rfl, by decide, by decide, List.mem_of_getElem? (i := 3) rfl, rz_good (i := 768) rfl rfl, Or.inl ⟨by decide +kernel, rfl⟩⟩, trivial⟩⟩, Or.inl rfl⟩
set_option maxRecDepth 100000 in
theorem ef_L_isSame : rz_ef mz_L_isSame := ⟨fun _ h => absurd h List.not_mem_nil, ⟨⟨rfl, rfl, by decide, by decide, List.mem_of_getElem? (i := 0) rfl, rz_good (i := 631) rfl rfl, Or.inl ⟨by decide +kernel, rfl⟩⟩, ⟨⟨rfl, rfl, by decide, by decide, List.mem_of_getElem? (i := 3) rfl, rz_good (i := 768) rfl rfl, Or.inl ⟨by decide +kernel, rfl⟩⟩, trivial⟩⟩, Or.inl rfl⟩
set_option maxRecDepth 100000 in
theorem ef_L_parts : rz_ef mz_L_parts := ⟨fun _ h => absurd h List.not_mem_nil, ⟨⟨rfl, rfl, by decide, by decide, List.mem_of_getElem? (i := 0) rfl, rz_good (i := 631) rfl rfl, Or.inl ⟨by decide +kernel, rfl⟩⟩, ⟨⟨rfl, rfl, by decide, by decide, List.mem_of_getElem? (i := 3) rfl, rz_good (i := 768) rfl rfl, Or.inl ⟨by decide +kernel, rfl⟩⟩, ⟨⟨rfl, rfl, by decide, by decide, List.mem_of_getElem? (i := 2) rfl, rz_good (i := 633) rfl rfl, Or.inl ⟨by decide +kernel, rfl⟩⟩, trivial⟩⟩⟩, Or.inl rfl⟩
set_option maxRecDepth 100000 in
theorem ef_L_meet : rz_ef mz_L_meet := ⟨fun _ h => absurd h List.not_mem_nil, ⟨⟨rfl, rfl, by decide, by decide, List.mem_of_getElem? (i := 0) rfl, rz_good (i := 631) rfl rfl, Or.inl ⟨by decide +kernel, rfl⟩⟩, ⟨⟨rfl, rfl, by decide, by decide, List.mem_of_getElem? (i := 3) rfl, rz_good (i := 768) rfl rfl, Or.inl ⟨by decide +kernel, rfl⟩⟩, ⟨⟨rfl, rfl, by decide, by decide, List.mem_of_getElem? (i := 4) rfl, rz_good (i := 837) rfl rfl, Or.inl ⟨by decide +kernel, rfl⟩⟩, trivial⟩⟩⟩, Or.inl rfl⟩
set_option maxRecDepth 100000 in
theorem ef_L_join : rz_ef mz_L_join := ⟨fun _ h => absurd h List.not_mem_nil, ⟨⟨rfl, rfl, by decide, by decide, List.mem_of_getElem? (i := 0) rfl, rz_good (i := 631) rfl rfl, Or.inl ⟨by decide +kernel, rfl⟩⟩, ⟨⟨rfl, rfl, by decide, by decide, List.mem_of_getElem? (i := 3) rfl, rz_good (i := 768) rfl rfl, Or.inl ⟨by decide +kernel, rfl⟩⟩, trivial⟩⟩, Or.inl rfl⟩
set_option maxRecDepth 100000 in
theorem ef_L_undo : rz_ef mz_L_undo := ⟨fun _ h => absurd h List.not_mem_nil, ⟨⟨rfl, rfl, by decide, by decide, List.mem_of_getElem? (i := 3) rfl, rz_good (i := 768) rfl rfl, Or.inr ⟨2, rfl, by decide +kernel, rfl⟩⟩, trivial⟩, Or.inl rfl⟩
set_option maxRecDepth 100000 in
theorem ef_L_stepX : rz_ef mz_L_stepX := ⟨fun _ h => absurd h List.not_mem_nil, ⟨⟨rfl, rfl, by decide, by decide, List.mem_of_getElem? (i := 0) rfl, rz_good (i := 631) rfl rfl, Or.inl ⟨by decide +kernel, rfl⟩⟩, ⟨⟨rfl, rfl, by decide, by decide, List.mem_of_getElem? (i := 1) rfl, rz_good (i := 632) rfl rfl, Or.inl ⟨by decide +kernel, rfl⟩⟩, ⟨⟨rfl, rfl, by decide, by decide, List.mem_of_getElem? (i := 3) rfl, rz_good (i := 768) rfl rfl, Or.inl ⟨by decide +kernel, rfl⟩⟩, trivial⟩⟩⟩, Or.inl rfl⟩
set_option maxRecDepth 100000 in
theorem ef_L_stepY : rz_ef mz_L_stepY := ⟨fun _ h => absurd h List.not_mem_nil, ⟨⟨rfl, rfl, by decide, by decide, List.mem_of_getElem? (i := 0) rfl, rz_good (i := 631) rfl rfl, Or.inl ⟨by decide +kernel, rfl⟩⟩, ⟨⟨rfl, rfl, by decide, by decide, List.mem_of_getElem? (i := 1) rfl, rz_good (i := 632) rfl rfl, Or.inl ⟨by decide +kernel, rfl⟩⟩, ⟨⟨rfl, rfl, by decide, by decide, List.mem_of_getElem? (i := 3) rfl, rz_good (i := 768) rfl rfl, Or.inl ⟨by decide +kernel, rfl⟩⟩, trivial⟩⟩⟩, Or.inl rfl⟩
set_option maxRecDepth 100000 in
theorem ef_L_second : rz_ef mz_L_second := ⟨fun _ h => absurd h List.not_mem_nil, ⟨⟨rfl, rfl, by decide, by decide, List.mem_of_getElem? (i := 0) rfl, rz_good (i := 631) rfl rfl, Or.inr ⟨3, rfl, by decide +kernel, rfl⟩⟩, ⟨⟨rfl, rfl, by decide, by decide, List.mem_of_getElem? (i := 3) rfl, rz_good (i := 768) rfl rfl, Or.inr ⟨3, rfl, by decide +kernel, rfl⟩⟩, trivial⟩⟩, Or.inl rfl⟩
set_option maxRecDepth 100000 in
theorem ef_L_steps : rz_ef mz_L_steps := ⟨fun _ h => absurd h List.not_mem_nil, ⟨⟨rfl, rfl, by decide, by decide, List.mem_of_getElem? (i := 0) rfl, rz_good (i := 631) rfl rfl, Or.inl ⟨by decide +kernel, rfl⟩⟩, ⟨⟨rfl, rfl, by decide, by decide, List.mem_of_getElem? (i := 1) rfl, rz_good (i := 632) rfl rfl, Or.inl ⟨by decide +kernel, rfl⟩⟩, ⟨⟨rfl, rfl, by decide, by decide, List.mem_of_getElem? (i := 3) rfl, rz_good (i := 768) rfl rfl, Or.inl ⟨by decide +kernel, rfl⟩⟩, trivial⟩⟩⟩, Or.inl rfl⟩
set_option maxRecDepth 100000 in
theorem ef_L_nearX : rz_ef mz_L_nearX := ⟨fun _ h => absurd h List.not_mem_nil, ⟨⟨rfl, rfl, by decide, by decide, List.mem_of_getElem? (i := 0) rfl, rz_good (i := 631) rfl rfl, Or.inl ⟨by decide +kernel, rfl⟩⟩, ⟨⟨rfl, rfl, by decide, by decide, List.mem_of_getElem? (i := 1) rfl, rz_good (i := 632) rfl rfl, Or.inl ⟨by decide +kernel, rfl⟩⟩, ⟨⟨rfl, rfl, by decide, by decide, List.mem_of_getElem? (i := 3) rfl, rz_good (i := 768) rfl rfl, Or.inl ⟨by decide +kernel, rfl⟩⟩, trivial⟩⟩⟩, Or.inl rfl⟩
set_option maxRecDepth 100000 in
theorem ef_L_nearY : rz_ef mz_L_nearY := ⟨fun _ h => absurd h List.not_mem_nil, ⟨⟨rfl, rfl, by decide, by decide, List.mem_of_getElem? (i := 0) rfl, rz_good (i := 631) rfl rfl, Or.inl ⟨by decide +kernel, rfl⟩⟩, ⟨⟨rfl, rfl, by decide, by decide, List.mem_of_getElem? (i := 1) rfl, rz_good (i := 632) rfl rfl, Or.inl ⟨by decide +kernel, rfl⟩⟩, ⟨⟨rfl, rfl, by decide, by decide, List.mem_of_getElem? (i := 3) rfl, rz_good (i := 768) rfl rfl, Or.inl ⟨by decide +kernel, rfl⟩⟩, trivial⟩⟩⟩, Or.inl rfl⟩
set_option maxRecDepth 100000 in
theorem ef_L_corners : rz_ef mz_L_corners := ⟨fun _ h => absurd h List.not_mem_nil, ⟨⟨rfl, rfl, by decide, by decide, List.mem_of_getElem? (i := 0) rfl, rz_good (i := 631) rfl rfl, Or.inr ⟨3, rfl, by decide +kernel, rfl⟩⟩, ⟨⟨rfl, rfl, by decide, by decide, List.mem_of_getElem? (i := 3) rfl, rz_good (i := 768) rfl rfl, Or.inr ⟨3, rfl, by decide +kernel, rfl⟩⟩, trivial⟩⟩, Or.inl rfl⟩
set_option maxRecDepth 100000 in
theorem ef_L_tellCorner : rz_ef mz_L_tellCorner := ⟨fun _ h => absurd h List.not_mem_nil, ⟨⟨rfl, rfl, by decide, by decide, List.mem_of_getElem? (i := 0) rfl, rz_good (i := 631) rfl rfl, Or.inl ⟨by decide +kernel, rfl⟩⟩, ⟨⟨rfl, rfl, by decide, by decide, List.mem_of_getElem? (i := 3) rfl, rz_good (i := 768) rfl rfl, Or.inl ⟨by decide +kernel, rfl⟩⟩, trivial⟩⟩, Or.inl rfl⟩
set_option maxRecDepth 100000 in
theorem ef_L_signAt : rz_ef mz_L_signAt := ⟨fun _ h => absurd h List.not_mem_nil, ⟨⟨rfl, rfl, by decide, by decide, List.mem_of_getElem? (i := 0) rfl, rz_good (i := 631) rfl rfl, Or.inr ⟨3, rfl, by decide +kernel, rfl⟩⟩, trivial⟩, Or.inl rfl⟩
set_option maxRecDepth 100000 in
theorem ef_L_coins : rz_ef mz_L_coins := ⟨fun _ h => absurd h List.not_mem_nil, ⟨⟨rfl, rfl, by decide, by decide, List.mem_of_getElem? (i := 1) rfl, rz_good (i := 632) rfl rfl, Or.inl ⟨by decide +kernel, rfl⟩⟩, ⟨⟨rfl, rfl, by decide, by decide, List.mem_of_getElem? (i := 2) rfl, rz_good (i := 633) rfl rfl, Or.inl ⟨by decide +kernel, rfl⟩⟩, trivial⟩⟩, Or.inl rfl⟩
set_option maxRecDepth 100000 in
theorem ef_L_lacks : rz_ef mz_L_lacks := ⟨fun _ h => absurd h List.not_mem_nil, ⟨⟨rfl, rfl, by decide, by decide, List.mem_of_getElem? (i := 4) rfl, rz_good (i := 837) rfl rfl, Or.inr ⟨2, rfl, by decide +kernel, rfl⟩⟩, trivial⟩, Or.inl rfl⟩
set_option maxRecDepth 100000 in
theorem ef_L_lackAt : rz_ef mz_L_lackAt := ⟨fun _ h => absurd h List.not_mem_nil, ⟨⟨rfl, rfl, by decide, by decide, List.mem_of_getElem? (i := 4) rfl, rz_good (i := 837) rfl rfl, Or.inr ⟨3, rfl, by decide +kernel, rfl⟩⟩, ⟨⟨rfl, rfl, by decide, by decide, List.mem_of_getElem? (i := 3) rfl, rz_good (i := 768) rfl rfl, Or.inr ⟨3, rfl, by decide +kernel, rfl⟩⟩, trivial⟩⟩, Or.inl rfl⟩
set_option maxRecDepth 100000 in
theorem ef_L_canMake : rz_ef mz_L_canMake := ⟨fun _ h => absurd h List.not_mem_nil, ⟨⟨rfl, rfl, by decide, by decide, List.mem_of_getElem? (i := 4) rfl, rz_good (i := 837) rfl rfl, Or.inr ⟨3, rfl, by decide +kernel, rfl⟩⟩, ⟨⟨rfl, rfl, by decide, by decide, List.mem_of_getElem? (i := 1) rfl, rz_good (i := 632) rfl rfl, Or.inr ⟨3, rfl, by decide +kernel, rfl⟩⟩, trivial⟩⟩, Or.inl rfl⟩
set_option maxRecDepth 100000 in
theorem ef_L_fewest : rz_ef mz_L_fewest := ⟨fun _ h => absurd h List.not_mem_nil, ⟨⟨rfl, rfl, by decide, by decide, List.mem_of_getElem? (i := 4) rfl, rz_good (i := 837) rfl rfl, Or.inr ⟨3, rfl, by decide +kernel, rfl⟩⟩, ⟨⟨rfl, rfl, by decide, by decide, List.mem_of_getElem? (i := 1) rfl, rz_good (i := 632) rfl rfl, Or.inr ⟨3, rfl, by decide +kernel, rfl⟩⟩, ⟨⟨rfl, rfl, by decide, by decide, List.mem_of_getElem? (i := 3) rfl, rz_good (i := 768) rfl rfl, Or.inr ⟨3, rfl, by decide +kernel, rfl⟩⟩, trivial⟩⟩⟩, Or.inl rfl⟩
set_option maxRecDepth 100000 in
theorem ef_L_ways : rz_ef mz_L_ways := ⟨fun _ h => absurd h List.not_mem_nil, ⟨⟨rfl, rfl, by decide, by decide, List.mem_of_getElem? (i := 4) rfl, rz_good (i := 837) rfl rfl, Or.inr ⟨3, rfl, by decide +kernel, rfl⟩⟩, ⟨⟨rfl, rfl, by decide, by decide, List.mem_of_getElem? (i := 1) rfl, rz_good (i := 632) rfl rfl, Or.inr ⟨3, rfl, by decide +kernel, rfl⟩⟩, trivial⟩⟩, Or.inl rfl⟩
set_option maxRecDepth 100000 in
theorem ef_L_corner : rz_ef mz_L_corner := ⟨fun _ h => absurd h List.not_mem_nil, ⟨⟨rfl, rfl, by decide, by decide, List.mem_of_getElem? (i := 1) rfl, rz_good (i := 632) rfl rfl, Or.inl ⟨by decide +kernel, rfl⟩⟩, ⟨⟨rfl, rfl, by decide, by decide, List.mem_of_getElem? (i := 4) rfl, rz_good (i := 837) rfl rfl, Or.inl ⟨by decide +kernel, rfl⟩⟩, trivial⟩⟩, Or.inl rfl⟩
set_option maxRecDepth 100000 in
theorem ef_L_close : rz_ef mz_L_close := ⟨fun _ h => absurd h List.not_mem_nil, ⟨⟨rfl, rfl, by decide, by decide, List.mem_of_getElem? (i := 4) rfl, rz_good (i := 837) rfl rfl, Or.inr ⟨2, rfl, by decide +kernel, rfl⟩⟩, ⟨⟨rfl, rfl, by decide, by decide, List.mem_of_getElem? (i := 2) rfl, rz_good (i := 633) rfl rfl, Or.inr ⟨2, rfl, by decide +kernel, rfl⟩⟩, trivial⟩⟩, Or.inl rfl⟩
set_option maxRecDepth 100000 in
theorem ef_L_rim : rz_ef mz_L_rim := ⟨fun _ h => absurd h List.not_mem_nil, ⟨⟨rfl, rfl, by decide, by decide, List.mem_of_getElem? (i := 4) rfl, rz_good (i := 837) rfl rfl, Or.inr ⟨2, rfl, by decide +kernel, rfl⟩⟩, trivial⟩, Or.inl rfl⟩
set_option maxRecDepth 100000 in
theorem ef_L_within : rz_ef mz_L_within := ⟨fun _ h => absurd h List.not_mem_nil, ⟨⟨rfl, rfl, by decide, by decide, List.mem_of_getElem? (i := 4) rfl, rz_good (i := 837) rfl rfl, Or.inr ⟨2, rfl, by decide +kernel, rfl⟩⟩, trivial⟩, Or.inl rfl⟩
set_option maxRecDepth 100000 in
theorem ef_L_where : rz_ef mz_L_where := ⟨fun _ h => absurd h List.not_mem_nil, ⟨⟨rfl, rfl, by decide, by decide, List.mem_of_getElem? (i := 4) rfl, rz_good (i := 837) rfl rfl, Or.inl ⟨by decide +kernel, rfl⟩⟩, trivial⟩, Or.inl rfl⟩
set_option maxRecDepth 100000 in
theorem ef_L_isConvex : rz_ef mz_L_isConvex := ⟨fun _ h => absurd h List.not_mem_nil, ⟨⟨rfl, rfl, by decide, by decide, List.mem_of_getElem? (i := 4) rfl, rz_good (i := 837) rfl rfl, Or.inr ⟨2, rfl, by decide +kernel, rfl⟩⟩, trivial⟩, Or.inl rfl⟩
set_option maxRecDepth 100000 in
theorem ef_L_grown : rz_ef mz_L_grown := ⟨fun _ h => absurd h List.not_mem_nil, ⟨⟨rfl, rfl, by decide, by decide, List.mem_of_getElem? (i := 4) rfl, rz_good (i := 837) rfl rfl, Or.inr ⟨3, rfl, by decide +kernel, rfl⟩⟩, ⟨⟨rfl, rfl, by decide, by decide, List.mem_of_getElem? (i := 1) rfl, rz_good (i := 632) rfl rfl, Or.inr ⟨3, rfl, by decide +kernel, rfl⟩⟩, trivial⟩⟩, Or.inl rfl⟩
set_option maxRecDepth 100000 in
theorem ef_L_triangleAt : rz_ef mz_L_triangleAt := ⟨fun _ h => absurd h List.not_mem_nil, ⟨⟨rfl, rfl, by decide, by decide, List.mem_of_getElem? (i := 4) rfl, rz_good (i := 837) rfl rfl, Or.inl ⟨by decide +kernel, rfl⟩⟩, ⟨⟨rfl, rfl, by decide, by decide, List.mem_of_getElem? (i := 3) rfl, rz_good (i := 768) rfl rfl, Or.inl ⟨by decide +kernel, rfl⟩⟩, trivial⟩⟩, Or.inl rfl⟩
set_option maxRecDepth 100000 in
theorem ef_L_tiles : rz_ef mz_L_tiles := ⟨fun _ h => absurd h List.not_mem_nil, ⟨⟨rfl, rfl, by decide, by decide, List.mem_of_getElem? (i := 0) rfl, rz_good (i := 631) rfl rfl, Or.inr ⟨3, rfl, by decide +kernel, rfl⟩⟩, ⟨⟨rfl, rfl, by decide, by decide, List.mem_of_getElem? (i := 4) rfl, rz_good (i := 837) rfl rfl, Or.inr ⟨3, rfl, by decide +kernel, rfl⟩⟩, ⟨⟨rfl, rfl, by decide, by decide, List.mem_of_getElem? (i := 3) rfl, rz_good (i := 768) rfl rfl, Or.inr ⟨3, rfl, by decide +kernel, rfl⟩⟩, ⟨⟨rfl, rfl, by decide, by decide, List.mem_of_getElem? (i := 2) rfl, rz_good (i := 633) rfl rfl, Or.inr ⟨3, rfl, by decide +kernel, rfl⟩⟩, trivial⟩⟩⟩⟩, Or.inl rfl⟩
set_option maxRecDepth 100000 in
theorem ef_L_seen : rz_ef mz_L_seen := ⟨fun _ h => absurd h List.not_mem_nil, ⟨⟨rfl, rfl, by decide, by decide, List.mem_of_getElem? (i := 1) rfl, rz_good (i := 632) rfl rfl, Or.inr ⟨3, rfl, by decide +kernel, rfl⟩⟩, trivial⟩, Or.inl rfl⟩
set_option maxRecDepth 100000 in
theorem ef_L_seenAt : rz_ef mz_L_seenAt := ⟨fun _ h => absurd h List.not_mem_nil, ⟨⟨rfl, rfl, by decide, by decide, List.mem_of_getElem? (i := 1) rfl, rz_good (i := 632) rfl rfl, Or.inl ⟨by decide +kernel, rfl⟩⟩, ⟨⟨rfl, rfl, by decide, by decide, List.mem_of_getElem? (i := 3) rfl, rz_good (i := 768) rfl rfl, Or.inl ⟨by decide +kernel, rfl⟩⟩, trivial⟩⟩, Or.inl rfl⟩
set_option maxRecDepth 100000 in
theorem ef_L_leaps : rz_ef mz_L_leaps := ⟨fun _ h => absurd h List.not_mem_nil, ⟨⟨rfl, rfl, by decide, by decide, List.mem_of_getElem? (i := 1) rfl, rz_good (i := 632) rfl rfl, Or.inl ⟨by decide +kernel, rfl⟩⟩, ⟨⟨rfl, rfl, by decide, by decide, List.mem_of_getElem? (i := 3) rfl, rz_good (i := 768) rfl rfl, Or.inl ⟨by decide +kernel, rfl⟩⟩, trivial⟩⟩, Or.inl rfl⟩
set_option maxRecDepth 100000 in
theorem ef_L_terms : rz_ef mz_L_terms := ⟨fun _ h => absurd h List.not_mem_nil, ⟨⟨rfl, rfl, by decide, by decide, List.mem_of_getElem? (i := 1) rfl, rz_good (i := 632) rfl rfl, Or.inl ⟨by decide +kernel, rfl⟩⟩, trivial⟩, Or.inl rfl⟩
set_option maxRecDepth 100000 in
theorem ef_L_termAt : rz_ef mz_L_termAt := ⟨fun _ h => absurd h List.not_mem_nil, ⟨⟨rfl, rfl, by decide, by decide, List.mem_of_getElem? (i := 1) rfl, rz_good (i := 632) rfl rfl, Or.inl ⟨by decide +kernel, rfl⟩⟩, ⟨⟨rfl, rfl, by decide, by decide, List.mem_of_getElem? (i := 3) rfl, rz_good (i := 768) rfl rfl, Or.inl ⟨by decide +kernel, rfl⟩⟩, trivial⟩⟩, Or.inl rfl⟩
set_option maxRecDepth 100000 in
theorem ef_L_hull : rz_ef mz_L_hull := ⟨fun _ h => absurd h List.not_mem_nil, ⟨⟨rfl, rfl, by decide, by decide, List.mem_of_getElem? (i := 1) rfl, rz_good (i := 632) rfl rfl, Or.inl ⟨by decide +kernel, rfl⟩⟩, trivial⟩, Or.inl rfl⟩
set_option maxRecDepth 100000 in
theorem ef_L_hullAt : rz_ef mz_L_hullAt := ⟨fun _ h => absurd h List.not_mem_nil, ⟨⟨rfl, rfl, by decide, by decide, List.mem_of_getElem? (i := 1) rfl, rz_good (i := 632) rfl rfl, Or.inl ⟨by decide +kernel, rfl⟩⟩, ⟨⟨rfl, rfl, by decide, by decide, List.mem_of_getElem? (i := 3) rfl, rz_good (i := 768) rfl rfl, Or.inl ⟨by decide +kernel, rfl⟩⟩, trivial⟩⟩, Or.inl rfl⟩
set_option maxRecDepth 100000 in
theorem efa_0 : ∀ M ∈ rz_ms_0, rz_ef M := List.forall_mem_cons.mpr ⟨ef_X0_init, List.forall_mem_cons.mpr ⟨ef_X0_reduce, List.forall_mem_cons.mpr ⟨ef_X0_swap, List.forall_mem_cons.mpr ⟨ef_X0_product, List.forall_mem_cons.mpr ⟨ef_X0_turn, List.forall_mem_cons.mpr ⟨ef_X0_seek, List.forall_mem_cons.mpr ⟨ef_X0_compare, List.forall_mem_cons.mpr ⟨ef_X1_init, List.forall_mem_cons.mpr ⟨ef_X1_draw, List.forall_mem_cons.mpr ⟨ef_X1_put, List.forall_mem_cons.mpr ⟨ef_X1_findFirst, List.forall_mem_cons.mpr ⟨ef_X1_overX, List.forall_mem_cons.mpr ⟨ef_X1_overY, List.forall_mem_cons.mpr ⟨ef_X1_placeOfCorner, List.forall_mem_cons.mpr ⟨ef_X2_init, List.forall_mem_cons.mpr ⟨ef_X2_cutAll, List.forall_mem_cons.mpr ⟨ef_X2_cutFirst, List.forall_mem_cons.mpr ⟨ef_X2_leftAt, List.forall_mem_cons.mpr ⟨ef_X2_remove, List.forall_mem_cons.mpr ⟨ef_X2_keep, List.forall_mem_cons.mpr ⟨ef_X2_isEar, List.forall_mem_cons.mpr ⟨ef_X2_cornerOf, List.forall_mem_cons.mpr ⟨ef_X3_init, List.forall_mem_cons.mpr ⟨ef_X3_generated, List.forall_mem_cons.mpr ⟨ef_X3_ofMultiples, List.forall_mem_cons.mpr ⟨ef_X3_ranked, List.forall_mem_cons.mpr ⟨ef_X3_joinOf, List.forall_mem_cons.mpr ⟨ef_X3_meetWidth, List.forall_mem_cons.mpr ⟨ef_X3_meetHeight, List.forall_mem_cons.mpr ⟨ef_X3_meetIndex, List.forall_mem_cons.mpr ⟨ef_X3_meetOf, List.forall_mem_cons.mpr ⟨ef_X3_index, List.forall_mem_cons.mpr ⟨ef_X3_contains, List.forall_mem_cons.mpr ⟨ef_X3_isPartOf, List.forall_mem_cons.mpr ⟨ef_X3_countUpTo, List.forall_mem_cons.mpr ⟨ef_X3_classOf, List.forall_mem_cons.mpr ⟨ef_X4_init, List.forall_mem_cons.mpr ⟨ef_X4_build, List.forall_mem_cons.mpr ⟨ef_X4_lowest, List.forall_mem_cons.mpr ⟨ef_X4_add, fun _ h => absurd h List.not_mem_nil⟩⟩⟩⟩⟩⟩⟩⟩⟩⟩⟩⟩⟩⟩⟩⟩⟩⟩⟩⟩⟩⟩⟩⟩⟩⟩⟩⟩⟩⟩⟩⟩⟩⟩⟩⟩⟩⟩⟩⟩
set_option maxRecDepth 100000 in
theorem efa_1 : ∀ M ∈ rz_ms_1, rz_ef M := List.forall_mem_cons.mpr ⟨ef_X4_xOf, List.forall_mem_cons.mpr ⟨ef_X4_yOf, List.forall_mem_cons.mpr ⟨ef_X4_turn, List.forall_mem_cons.mpr ⟨ef_X4_bendsUp, List.forall_mem_cons.mpr ⟨ef_X4_liesBelowAll, List.forall_mem_cons.mpr ⟨ef_X5_init, List.forall_mem_cons.mpr ⟨ef_X5_countTo, List.forall_mem_cons.mpr ⟨ef_X5_leapFrom, List.forall_mem_cons.mpr ⟨ef_X5_comeTo, List.forall_mem_cons.mpr ⟨ef_X5_placeOfPoint, List.forall_mem_cons.mpr ⟨ef_X6_init, List.forall_mem_cons.mpr ⟨ef_X6_type, List.forall_mem_cons.mpr ⟨ef_X6_takeAway, List.forall_mem_cons.mpr ⟨ef_X6_shut, List.forall_mem_cons.mpr ⟨ef_X6_xOf, List.forall_mem_cons.mpr ⟨ef_X6_yOf, List.forall_mem_cons.mpr ⟨ef_X6_after, List.forall_mem_cons.mpr ⟨ef_X6_turn, List.forall_mem_cons.mpr ⟨ef_X6_signedArea, List.forall_mem_cons.mpr ⟨ef_X6_twiceArea, List.forall_mem_cons.mpr ⟨ef_X6_rimPoints, List.forall_mem_cons.mpr ⟨ef_X6_isProper, List.forall_mem_cons.mpr ⟨ef_X6_foldsBack, List.forall_mem_cons.mpr ⟨ef_X6_sidesMeet, List.forall_mem_cons.mpr ⟨ef_X6_isOn, List.forall_mem_cons.mpr ⟨ef_X6_crosses, List.forall_mem_cons.mpr ⟨ef_X6_placeOf, List.forall_mem_cons.mpr ⟨ef_X6_findSidesAt, List.forall_mem_cons.mpr ⟨ef_X6_placeInRow, List.forall_mem_cons.mpr ⟨ef_X6_turnsOneWay, List.forall_mem_cons.mpr ⟨ef_X6_isUpright, List.forall_mem_cons.mpr ⟨ef_X6_fillsBy, List.forall_mem_cons.mpr ⟨ef_X6_isMarked, List.forall_mem_cons.mpr ⟨ef_X6_hasSquare, List.forall_mem_cons.mpr ⟨ef_X6_least, List.forall_mem_cons.mpr ⟨ef_X6_greatest, List.forall_mem_cons.mpr ⟨ef_X6_countsAgree, List.forall_mem_cons.mpr ⟨ef_X6_addTo, List.forall_mem_cons.mpr ⟨ef_X7_init, List.forall_mem_cons.mpr ⟨ef_X7_areValues, fun _ h => absurd h List.not_mem_nil⟩⟩⟩⟩⟩⟩⟩⟩⟩⟩⟩⟩⟩⟩⟩⟩⟩⟩⟩⟩⟩⟩⟩⟩⟩⟩⟩⟩⟩⟩⟩⟩⟩⟩⟩⟩⟩⟩⟩⟩
set_option maxRecDepth 100000 in
theorem efa_2 : ∀ M ∈ rz_ms_2, rz_ef M := List.forall_mem_cons.mpr ⟨ef_X7_isValue, List.forall_mem_cons.mpr ⟨ef_X7_take, List.forall_mem_cons.mpr ⟨ef_X7_addKind, List.forall_mem_cons.mpr ⟨ef_X7_countLacks, List.forall_mem_cons.mpr ⟨ef_X7_lackOf, List.forall_mem_cons.mpr ⟨ef_X7_leastCoins, List.forall_mem_cons.mpr ⟨ef_X7_wayCount, List.forall_mem_cons.mpr ⟨ef_X7_addTo, List.forall_mem_cons.mpr ⟨ef_X7_lacksAreHalf, List.forall_mem_cons.mpr ⟨ef_X8_init, List.forall_mem_cons.mpr ⟨ef_X8_fill, List.forall_mem_cons.mpr ⟨ef_X8_add, List.forall_mem_cons.mpr ⟨ef_X8_isAhead, List.forall_mem_cons.mpr ⟨ef_X8_xOf, List.forall_mem_cons.mpr ⟨ef_X8_yOf, List.forall_mem_cons.mpr ⟨ef_X8_firstAside, List.forall_mem_cons.mpr ⟨ef_X9_init, List.forall_mem_cons.mpr ⟨ef_X9_sign, List.forall_mem_cons.mpr ⟨ef_X9_becomeNumber, List.forall_mem_cons.mpr ⟨ef_X9_becomeFraction, List.forall_mem_cons.mpr ⟨ef_X9_becomeProductAndOne, List.forall_mem_cons.mpr ⟨ef_X9_putNumber, List.forall_mem_cons.mpr ⟨ef_X9_putDigits, List.forall_mem_cons.mpr ⟨ef_X9_putSign, List.forall_mem_cons.mpr ⟨ef_X9_addTo, List.forall_mem_cons.mpr ⟨ef_X10_init, List.forall_mem_cons.mpr ⟨ef_X10_spanned, List.forall_mem_cons.mpr ⟨ef_X10_remainder, List.forall_mem_cons.mpr ⟨ef_X10_nth, List.forall_mem_cons.mpr ⟨ef_X10_grids, List.forall_mem_cons.mpr ⟨ef_X10_form, List.forall_mem_cons.mpr ⟨ef_X10_has, List.forall_mem_cons.mpr ⟨ef_X10_isSame, List.forall_mem_cons.mpr ⟨ef_X10_parts, List.forall_mem_cons.mpr ⟨ef_X10_meet, List.forall_mem_cons.mpr ⟨ef_X10_join, List.forall_mem_cons.mpr ⟨ef_X10_undo, List.forall_mem_cons.mpr ⟨ef_X10_stepX, List.forall_mem_cons.mpr ⟨ef_X10_stepY, List.forall_mem_cons.mpr ⟨ef_X10_second, fun _ h => absurd h List.not_mem_nil⟩⟩⟩⟩⟩⟩⟩⟩⟩⟩⟩⟩⟩⟩⟩⟩⟩⟩⟩⟩⟩⟩⟩⟩⟩⟩⟩⟩⟩⟩⟩⟩⟩⟩⟩⟩⟩⟩⟩⟩
set_option maxRecDepth 100000 in
theorem efa_3 : ∀ M ∈ rz_ms_3, rz_ef M := List.forall_mem_cons.mpr ⟨ef_X10_steps, List.forall_mem_cons.mpr ⟨ef_X10_nearX, List.forall_mem_cons.mpr ⟨ef_X10_nearY, List.forall_mem_cons.mpr ⟨ef_X10_corners, List.forall_mem_cons.mpr ⟨ef_X10_tellCorner, List.forall_mem_cons.mpr ⟨ef_X10_signAt, List.forall_mem_cons.mpr ⟨ef_X10_coins, List.forall_mem_cons.mpr ⟨ef_X10_lacks, List.forall_mem_cons.mpr ⟨ef_X10_lackAt, List.forall_mem_cons.mpr ⟨ef_X10_canMake, List.forall_mem_cons.mpr ⟨ef_X10_fewest, List.forall_mem_cons.mpr ⟨ef_X10_ways, List.forall_mem_cons.mpr ⟨ef_X10_corner, List.forall_mem_cons.mpr ⟨ef_X10_clear, List.forall_mem_cons.mpr ⟨ef_X10_close, List.forall_mem_cons.mpr ⟨ef_X10_rim, List.forall_mem_cons.mpr ⟨ef_X10_within, List.forall_mem_cons.mpr ⟨ef_X10_where, List.forall_mem_cons.mpr ⟨ef_X10_isConvex, List.forall_mem_cons.mpr ⟨ef_X10_grown, List.forall_mem_cons.mpr ⟨ef_X10_triangleAt, List.forall_mem_cons.mpr ⟨ef_X10_tiles, List.forall_mem_cons.mpr ⟨ef_X10_seen, List.forall_mem_cons.mpr ⟨ef_X10_seenAt, List.forall_mem_cons.mpr ⟨ef_X10_leaps, List.forall_mem_cons.mpr ⟨ef_X10_terms, List.forall_mem_cons.mpr ⟨ef_X10_termAt, List.forall_mem_cons.mpr ⟨ef_X10_hull, List.forall_mem_cons.mpr ⟨ef_X10_hullAt, List.forall_mem_cons.mpr ⟨ef_X10_held, List.forall_mem_cons.mpr ⟨ef_X10_checksum, List.forall_mem_cons.mpr ⟨ef_X10_isSound, List.forall_mem_cons.mpr ⟨ef_X10_checkSlot, List.forall_mem_cons.mpr ⟨ef_X10_checkRange, List.forall_mem_cons.mpr ⟨ef_X10_checkFraction, List.forall_mem_cons.mpr ⟨ef_X10_checkCoins, List.forall_mem_cons.mpr ⟨ef_X10_checkClosed, List.forall_mem_cons.mpr ⟨ef_X10_gridIn, List.forall_mem_cons.mpr ⟨ef_X10_become, List.forall_mem_cons.mpr ⟨ef_X10_forgetOldest, fun _ h => absurd h List.not_mem_nil⟩⟩⟩⟩⟩⟩⟩⟩⟩⟩⟩⟩⟩⟩⟩⟩⟩⟩⟩⟩⟩⟩⟩⟩⟩⟩⟩⟩⟩⟩⟩⟩⟩⟩⟩⟩⟩⟩⟩⟩
set_option maxRecDepth 100000 in
theorem efa_4 : ∀ M ∈ rz_ms_4, rz_ef M := List.forall_mem_cons.mpr ⟨ef_X10_listSteps, List.forall_mem_cons.mpr ⟨ef_X10_drawCell, List.forall_mem_cons.mpr ⟨ef_X10_seekNearest, List.forall_mem_cons.mpr ⟨ef_X10_gcd, List.forall_mem_cons.mpr ⟨ef_X10_countTerms, List.forall_mem_cons.mpr ⟨ef_X10_findTerm, List.forall_mem_cons.mpr ⟨ef_X10_countSeen, List.forall_mem_cons.mpr ⟨ef_X10_findSeen, List.forall_mem_cons.mpr ⟨ef_X10_leastStepsSpan, List.forall_mem_cons.mpr ⟨ef_X10_indexesAgree, List.forall_mem_cons.mpr ⟨ef_X10_polygonAgrees, List.forall_mem_cons.mpr ⟨ef_X10_seenNeighboursSpan, List.forall_mem_cons.mpr ⟨ef_X10_hullIsLowest, List.forall_mem_cons.mpr ⟨ef_X11_init, List.forall_mem_cons.mpr ⟨ef_X11_thrown, List.forall_mem_cons.mpr ⟨ef_X11_no, List.forall_mem_cons.mpr ⟨ef_X11_in, List.forall_mem_cons.mpr ⟨ef_X11_isSlot, List.forall_mem_cons.mpr ⟨ef_X11_gcd, List.forall_mem_cons.mpr ⟨ef_X11_mod, List.forall_mem_cons.mpr ⟨ef_X11_becomes, List.forall_mem_cons.mpr ⟨ef_X11_highOf, List.forall_mem_cons.mpr ⟨ef_X11_spanned, List.forall_mem_cons.mpr ⟨ef_X11_remainder, List.forall_mem_cons.mpr ⟨ef_X11_nth, List.forall_mem_cons.mpr ⟨ef_X11_grids, List.forall_mem_cons.mpr ⟨ef_X11_lacks, List.forall_mem_cons.mpr ⟨ef_X11_lackBoth, List.forall_mem_cons.mpr ⟨ef_X11_form, List.forall_mem_cons.mpr ⟨ef_X11_hasIt, List.forall_mem_cons.mpr ⟨ef_X11_has, List.forall_mem_cons.mpr ⟨ef_X11_isWithin, List.forall_mem_cons.mpr ⟨ef_X11_isSame, List.forall_mem_cons.mpr ⟨ef_X11_parts, List.forall_mem_cons.mpr ⟨ef_X11_lackAll, List.forall_mem_cons.mpr ⟨ef_X11_meet, List.forall_mem_cons.mpr ⟨ef_X11_join, List.forall_mem_cons.mpr ⟨ef_X11_undo, List.forall_mem_cons.mpr ⟨ef_X11_times, List.forall_mem_cons.mpr ⟨ef_X11_floor, fun _ h => absurd h List.not_mem_nil⟩⟩⟩⟩⟩⟩⟩⟩⟩⟩⟩⟩⟩⟩⟩⟩⟩⟩⟩⟩⟩⟩⟩⟩⟩⟩⟩⟩⟩⟩⟩⟩⟩⟩⟩⟩⟩⟩⟩⟩
set_option maxRecDepth 100000 in
theorem efa_5 : ∀ M ∈ rz_ms_5, rz_ef M := List.forall_mem_cons.mpr ⟨ef_X11_shortOf, List.forall_mem_cons.mpr ⟨ef_X11_isTold, List.forall_mem_cons.mpr ⟨ef_X11_isAhead, List.forall_mem_cons.mpr ⟨ef_X11_stepsOf, List.forall_mem_cons.mpr ⟨ef_X11_lacksStep, List.forall_mem_cons.mpr ⟨ef_X11_stepX, List.forall_mem_cons.mpr ⟨ef_X11_stepY, List.forall_mem_cons.mpr ⟨ef_X11_second, List.forall_mem_cons.mpr ⟨ef_X11_steps, List.forall_mem_cons.mpr ⟨ef_X11_nearest, List.forall_mem_cons.mpr ⟨ef_X11_lacksNear, List.forall_mem_cons.mpr ⟨ef_X11_nearX, List.forall_mem_cons.mpr ⟨ef_X11_nearY, List.forall_mem_cons.mpr ⟨ef_X11_around, List.forall_mem_cons.mpr ⟨ef_X11_corners, List.forall_mem_cons.mpr ⟨ef_X11_cellOf, List.forall_mem_cons.mpr ⟨ef_X11_adds, List.forall_mem_cons.mpr ⟨ef_X11_addsNumber, List.forall_mem_cons.mpr ⟨ef_X11_tellCorner, List.forall_mem_cons.mpr ⟨ef_X11_signAt, List.forall_mem_cons.mpr ⟨ef_X11_fewestOf, List.forall_mem_cons.mpr ⟨ef_X11_coins, List.forall_mem_cons.mpr ⟨ef_X11_lacksUpTo, List.forall_mem_cons.mpr ⟨ef_X11_lacks_, List.forall_mem_cons.mpr ⟨ef_X11_lackAt, List.forall_mem_cons.mpr ⟨ef_X11_canMake, List.forall_mem_cons.mpr ⟨ef_X11_fewest, List.forall_mem_cons.mpr ⟨ef_X11_ways, List.forall_mem_cons.mpr ⟨ef_X11_corner, List.forall_mem_cons.mpr ⟨ef_X11_clear, List.forall_mem_cons.mpr ⟨ef_X11_after, List.forall_mem_cons.mpr ⟨ef_X11_turn, List.forall_mem_cons.mpr ⟨ef_X11_isOn, List.forall_mem_cons.mpr ⟨ef_X11_doMeet, List.forall_mem_cons.mpr ⟨ef_X11_isPolygon, List.forall_mem_cons.mpr ⟨ef_X11_areaTwice, List.forall_mem_cons.mpr ⟨ef_X11_close, List.forall_mem_cons.mpr ⟨ef_X11_rimIts, List.forall_mem_cons.mpr ⟨ef_X11_rim, List.forall_mem_cons.mpr ⟨ef_X11_isInside, fun _ h => absurd h List.not_mem_nil⟩⟩⟩⟩⟩⟩⟩⟩⟩⟩⟩⟩⟩⟩⟩⟩⟩⟩⟩⟩⟩⟩⟩⟩⟩⟩⟩⟩⟩⟩⟩⟩⟩⟩⟩⟩⟩⟩⟩⟩
set_option maxRecDepth 100000 in
theorem efa_6 : ∀ M ∈ rz_ms_6, rz_ef M := List.forall_mem_cons.mpr ⟨ef_X11_whereIts, List.forall_mem_cons.mpr ⟨ef_X11_where, List.forall_mem_cons.mpr ⟨ef_X11_within, List.forall_mem_cons.mpr ⟨ef_X11_isConvex, List.forall_mem_cons.mpr ⟨ef_X11_grown, List.forall_mem_cons.mpr ⟨ef_X11_isEar, List.forall_mem_cons.mpr ⟨ef_X11_triangleAt, List.forall_mem_cons.mpr ⟨ef_X11_tiles, List.forall_mem_cons.mpr ⟨ef_X11_seenOf, List.forall_mem_cons.mpr ⟨ef_X11_manyOf, List.forall_mem_cons.mpr ⟨ef_X11_seen, List.forall_mem_cons.mpr ⟨ef_X11_seenAt, List.forall_mem_cons.mpr ⟨ef_X11_leaps, List.forall_mem_cons.mpr ⟨ef_X11_areRight, List.forall_mem_cons.mpr ⟨ef_X11_termsOf, List.forall_mem_cons.mpr ⟨ef_X11_manyTerms, List.forall_mem_cons.mpr ⟨ef_X11_terms, List.forall_mem_cons.mpr ⟨ef_X11_termAt, List.forall_mem_cons.mpr ⟨ef_X11_lowest, List.forall_mem_cons.mpr ⟨ef_X11_hullOf, List.forall_mem_cons.mpr ⟨ef_X11_manyHull, List.forall_mem_cons.mpr ⟨ef_X11_hull, List.forall_mem_cons.mpr ⟨ef_X11_hullAt, List.forall_mem_cons.mpr ⟨ef_X11_held, List.forall_mem_cons.mpr ⟨ef_X11_checksum, List.forall_mem_cons.mpr ⟨ef_X11_isSound, List.forall_mem_cons.mpr ⟨ef_J9_floorDiv_7cf53, List.forall_mem_cons.mpr ⟨ef_J9_floorDiv_f86c9, List.forall_mem_cons.mpr ⟨ef_J9_floorMod_7cf53, List.forall_mem_cons.mpr ⟨ef_J9_floorMod_f86c9, List.forall_mem_cons.mpr ⟨ef_J9_abs_0f7a4, List.forall_mem_cons.mpr ⟨ef_J9_abs_067f4, List.forall_mem_cons.mpr ⟨ef_J9_max_7cf53, List.forall_mem_cons.mpr ⟨ef_J9_max_f86c9, List.forall_mem_cons.mpr ⟨ef_J9_min_7cf53, List.forall_mem_cons.mpr ⟨ef_J9_min_f86c9, List.forall_mem_cons.mpr ⟨ef_J7_fill_53178, List.forall_mem_cons.mpr ⟨ef_L_spanned, List.forall_mem_cons.mpr ⟨ef_L_remainder, List.forall_mem_cons.mpr ⟨ef_L_nth, fun _ h => absurd h List.not_mem_nil⟩⟩⟩⟩⟩⟩⟩⟩⟩⟩⟩⟩⟩⟩⟩⟩⟩⟩⟩⟩⟩⟩⟩⟩⟩⟩⟩⟩⟩⟩⟩⟩⟩⟩⟩⟩⟩⟩⟩⟩
set_option maxRecDepth 100000 in
theorem efa_7 : ∀ M ∈ rz_ms_7, rz_ef M := List.forall_mem_cons.mpr ⟨ef_L_grids, List.forall_mem_cons.mpr ⟨ef_L_form, List.forall_mem_cons.mpr ⟨ef_L_has, List.forall_mem_cons.mpr ⟨ef_L_isSame, List.forall_mem_cons.mpr ⟨ef_L_parts, List.forall_mem_cons.mpr ⟨ef_L_meet, List.forall_mem_cons.mpr ⟨ef_L_join, List.forall_mem_cons.mpr ⟨ef_L_undo, List.forall_mem_cons.mpr ⟨ef_L_stepX, List.forall_mem_cons.mpr ⟨ef_L_stepY, List.forall_mem_cons.mpr ⟨ef_L_second, List.forall_mem_cons.mpr ⟨ef_L_steps, List.forall_mem_cons.mpr ⟨ef_L_nearX, List.forall_mem_cons.mpr ⟨ef_L_nearY, List.forall_mem_cons.mpr ⟨ef_L_corners, List.forall_mem_cons.mpr ⟨ef_L_tellCorner, List.forall_mem_cons.mpr ⟨ef_L_signAt, List.forall_mem_cons.mpr ⟨ef_L_coins, List.forall_mem_cons.mpr ⟨ef_L_lacks, List.forall_mem_cons.mpr ⟨ef_L_lackAt, List.forall_mem_cons.mpr ⟨ef_L_canMake, List.forall_mem_cons.mpr ⟨ef_L_fewest, List.forall_mem_cons.mpr ⟨ef_L_ways, List.forall_mem_cons.mpr ⟨ef_L_corner, List.forall_mem_cons.mpr ⟨ef_L_close, List.forall_mem_cons.mpr ⟨ef_L_rim, List.forall_mem_cons.mpr ⟨ef_L_within, List.forall_mem_cons.mpr ⟨ef_L_where, List.forall_mem_cons.mpr ⟨ef_L_isConvex, List.forall_mem_cons.mpr ⟨ef_L_grown, List.forall_mem_cons.mpr ⟨ef_L_triangleAt, List.forall_mem_cons.mpr ⟨ef_L_tiles, List.forall_mem_cons.mpr ⟨ef_L_seen, List.forall_mem_cons.mpr ⟨ef_L_seenAt, List.forall_mem_cons.mpr ⟨ef_L_leaps, List.forall_mem_cons.mpr ⟨ef_L_terms, List.forall_mem_cons.mpr ⟨ef_L_termAt, List.forall_mem_cons.mpr ⟨ef_L_hull, List.forall_mem_cons.mpr ⟨ef_L_hullAt, fun _ h => absurd h List.not_mem_nil⟩⟩⟩⟩⟩⟩⟩⟩⟩⟩⟩⟩⟩⟩⟩⟩⟩⟩⟩⟩⟩⟩⟩⟩⟩⟩⟩⟩⟩⟩⟩⟩⟩⟩⟩⟩⟩⟩⟩
theorem efa : ∀ M ∈ rz_ms, rz_ef M := by
  rw [rz_ms_app]
  intro M h
  simp only [List.mem_append] at h
  rcases h with h | h | h | h | h | h | h | h
  · exact efa_0 M h
  · exact efa_1 M h
  · exact efa_2 M h
  · exact efa_3 M h
  · exact efa_4 M h
  · exact efa_5 M h
  · exact efa_6 M h
  · exact efa_7 M h
set_option maxRecDepth 100000 in
theorem rz_ncs_all : ∀ a ∈ rz_ex5, ∀ b ∈ rz_ex5, a ≠ b → (a, b) ∈ rz_ncs := by decide +kernel
set_option maxRecDepth 100000 in
theorem rz_cas_all : ∀ a ∈ rz_ex5, Cond.castable a a ∈ rz_soft := by
  have h : ∀ a ∈ rz_ex5, Cond.castable a a ∈ lw_tbl := by decide +kernel
  exact fun a ha => List.mem_filter.mpr ⟨h a ha, rfl⟩
set_option maxRecDepth 100000 in
theorem rz_ics_fit : ∀ q ∈ rz_ics, Bundle.fit q.2 = true ∧ Cond.initialized q.2 ∈ lw_tbl := by decide +kernel
set_option maxRecDepth 100000 in
theorem rz_nms_fit : ∀ n ∈ (["java/lang/RuntimeException", "java/lang/Exception"] : List String), Bundle.fit n = true := by decide +kernel
def rz_rx : ByteArray := prog_25_method_4_code
theorem rz_rx0 : decode rz_rx 0 = .ok (.aload_n 0, 1) := by decide +kernel
theorem rz_rx1 : decode rz_rx 1 = .ok (.aload_n 1, 1) := by decide +kernel
theorem rz_rx2 : decode rz_rx 2 = .ok (.invokespecial 13, 3) := by decide +kernel
theorem rz_rx5 : decode rz_rx 5 = .ok (.return_, 1) := by decide +kernel
set_option maxRecDepth 100000 in
theorem rz_ics_0 : ∀ w ∈ vx_atS RX10 226 "java/lang/IndexOutOfBoundsException" ["java/lang/RuntimeException", "java/lang/Exception"], w ∈ lw_tbl ∧ (vx_ot w = true ∧ (goodWord w || rz_sk w) = true) := by decide +kernel
set_option maxRecDepth 100000 in
theorem rz_ics_1 : ∀ w ∈ vx_atS RX10 125 "java/lang/IllegalArgumentException" ["java/lang/RuntimeException", "java/lang/Exception"], w ∈ lw_tbl ∧ (vx_ot w = true ∧ (goodWord w || rz_sk w) = true) := by decide +kernel
set_option maxRecDepth 100000 in
theorem rz_ics_2 : ∀ w ∈ vx_atS RX10 98 "java/lang/UnsupportedOperationException" ["java/lang/RuntimeException", "java/lang/Exception"], w ∈ lw_tbl ∧ (vx_ot w = true ∧ (goodWord w || rz_sk w) = true) := by decide +kernel
set_option maxRecDepth 100000 in
theorem rz_ics_3 : ∀ w ∈ rz_atX RX10 117 "java/util/NoSuchElementException" 13 rz_rx ["java/lang/RuntimeException", "java/lang/Exception"], w ∈ lw_tbl ∧ (vx_ot w = true ∧ (goodWord w || rz_sk w) = true) := by decide +kernel
set_option maxRecDepth 100000 in
theorem rz_ics_4 : ∀ w ∈ vx_atS RX10 160 "java/lang/IllegalStateException" ["java/lang/RuntimeException", "java/lang/Exception"], w ∈ lw_tbl ∧ (vx_ot w = true ∧ (goodWord w || rz_sk w) = true) := by decide +kernel
theorem rz_ics_all : ∀ q ∈ rz_ics, (∀ w ∈ vx_atS RX10 q.1 q.2 ["java/lang/RuntimeException", "java/lang/Exception"], w ∈ lw_tbl ∧ (vx_ot w = true ∧ (goodWord w || rz_sk w) = true)) ∨ (∀ w ∈ rz_atX RX10 q.1 q.2 13 rz_rx ["java/lang/RuntimeException", "java/lang/Exception"], w ∈ lw_tbl ∧ (vx_ot w = true ∧ (goodWord w || rz_sk w) = true)) := List.forall_mem_cons.mpr ⟨Or.inl rz_ics_0, List.forall_mem_cons.mpr ⟨Or.inl rz_ics_1, List.forall_mem_cons.mpr ⟨Or.inl rz_ics_2, List.forall_mem_cons.mpr ⟨Or.inr rz_ics_3, List.forall_mem_cons.mpr ⟨Or.inl rz_ics_4, fun _ h => absurd h List.not_mem_nil⟩⟩⟩⟩⟩
