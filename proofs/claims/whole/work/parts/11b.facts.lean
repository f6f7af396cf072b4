/-! part 11: what the tables and the codes say of each method, by tools/gen_facts.py -/
def rz_mf (M : rz_M) : Prop := Cond.initialized M.1.cls ∈ lw_good ∧ rz_hw M ∈ lw_good ∧ (M.1.cls ≠ "java/lang/invoke/MethodHandle" ∧ M.1.cls ≠ "java/lang/invoke/VarHandle") ∧ M.2.2.1 ≤ 40 ∧ plainFor M.1 = true ∧ rz_own M.2.2.2.2.1 = M.1.cls ∧ ∀ q ∈ M.2.2.2.2.2.1, rz_ck M.2.1 q = true
theorem nc0 : RX0 ≠ "java/lang/invoke/MethodHandle" ∧ RX0 ≠ "java/lang/invoke/VarHandle" := by decide +kernel
theorem np0 : plainName RX0 = true := by decide +kernel
set_option maxRecDepth 100000 in
theorem ni0 : Cond.initialized RX0 ∈ lw_good := rz_good (i := 74) rfl rfl
theorem nc1 : RX1 ≠ "java/lang/invoke/MethodHandle" ∧ RX1 ≠ "java/lang/invoke/VarHandle" := by decide +kernel
theorem np1 : plainName RX1 = true := by decide +kernel
set_option maxRecDepth 100000 in
theorem ni1 : Cond.initialized RX1 ∈ lw_good := rz_good (i := 76) rfl rfl
theorem nc2 : RX2 ≠ "java/lang/invoke/MethodHandle" ∧ RX2 ≠ "java/lang/invoke/VarHandle" := by decide +kernel
theorem np2 : plainName RX2 = true := by decide +kernel
set_option maxRecDepth 100000 in
theorem ni2 : Cond.initialized RX2 ∈ lw_good := rz_good (i := 80) rfl rfl
theorem nc3 : RX3 ≠ "java/lang/invoke/MethodHandle" ∧ RX3 ≠ "java/lang/invoke/VarHandle" := by decide +kernel
theorem np3 : plainName RX3 = true := by decide +kernel
set_option maxRecDepth 100000 in
theorem ni3 : Cond.initialized RX3 ∈ lw_good := rz_good (i := 89) rfl rfl
theorem nc4 : RX4 ≠ "java/lang/invoke/MethodHandle" ∧ RX4 ≠ "java/lang/invoke/VarHandle" := by decide +kernel
theorem np4 : plainName RX4 = true := by decide +kernel
set_option maxRecDepth 100000 in
theorem ni4 : Cond.initialized RX4 ∈ lw_good := rz_good (i := 82) rfl rfl
theorem nc5 : RX5 ≠ "java/lang/invoke/MethodHandle" ∧ RX5 ≠ "java/lang/invoke/VarHandle" := by decide +kernel
theorem np5 : plainName RX5 = true := by decide +kernel
set_option maxRecDepth 100000 in
theorem ni5 : Cond.initialized RX5 ∈ lw_good := rz_good (i := 81) rfl rfl
theorem nc6 : RX6 ≠ "java/lang/invoke/MethodHandle" ∧ RX6 ≠ "java/lang/invoke/VarHandle" := by decide +kernel
theorem np6 : plainName RX6 = true := by decide +kernel
set_option maxRecDepth 100000 in
theorem ni6 : Cond.initialized RX6 ∈ lw_good := rz_good (i := 79) rfl rfl
theorem nc7 : RX7 ≠ "java/lang/invoke/MethodHandle" ∧ RX7 ≠ "java/lang/invoke/VarHandle" := by decide +kernel
theorem np7 : plainName RX7 = true := by decide +kernel
set_option maxRecDepth 100000 in
theorem ni7 : Cond.initialized RX7 ∈ lw_good := rz_good (i := 78) rfl rfl
theorem nc8 : RX8 ≠ "java/lang/invoke/MethodHandle" ∧ RX8 ≠ "java/lang/invoke/VarHandle" := by decide +kernel
theorem np8 : plainName RX8 = true := by decide +kernel
set_option maxRecDepth 100000 in
theorem ni8 : Cond.initialized RX8 ∈ lw_good := rz_good (i := 75) rfl rfl
theorem nc9 : RX9 ≠ "java/lang/invoke/MethodHandle" ∧ RX9 ≠ "java/lang/invoke/VarHandle" := by decide +kernel
theorem np9 : plainName RX9 = true := by decide +kernel
set_option maxRecDepth 100000 in
theorem ni9 : Cond.initialized RX9 ∈ lw_good := rz_good (i := 77) rfl rfl
theorem nc10 : RX10 ≠ "java/lang/invoke/MethodHandle" ∧ RX10 ≠ "java/lang/invoke/VarHandle" := by decide +kernel
theorem np10 : plainName RX10 = true := by decide +kernel
set_option maxRecDepth 100000 in
theorem ni10 : Cond.initialized RX10 ∈ lw_good := rz_good (i := 73) rfl rfl
theorem nc11 : RX11 ≠ "java/lang/invoke/MethodHandle" ∧ RX11 ≠ "java/lang/invoke/VarHandle" := by decide +kernel
theorem np11 : plainName RX11 = true := by decide +kernel
set_option maxRecDepth 100000 in
theorem ni11 : Cond.initialized RX11 ∈ lw_good := rz_good (i := 83) rfl rfl
theorem nc12 : RL ≠ "java/lang/invoke/MethodHandle" ∧ RL ≠ "java/lang/invoke/VarHandle" := by decide +kernel
theorem np12 : plainName RL = true := by decide +kernel
set_option maxRecDepth 100000 in
theorem ni12 : Cond.initialized RL ∈ lw_good := rz_good (i := 72) rfl rfl
theorem nc13 : RJ9 ≠ "java/lang/invoke/MethodHandle" ∧ RJ9 ≠ "java/lang/invoke/VarHandle" := by decide +kernel
set_option maxRecDepth 100000 in
theorem ni13 : Cond.initialized RJ9 ∈ lw_good := rz_good (i := 90) rfl rfl
theorem nc14 : RJ7 ≠ "java/lang/invoke/MethodHandle" ∧ RJ7 ≠ "java/lang/invoke/VarHandle" := by decide +kernel
theorem np14 : plainName RJ7 = true := by decide +kernel
set_option maxRecDepth 100000 in
theorem ni14 : Cond.initialized RJ7 ∈ lw_good := rz_good (i := 94) rfl rfl
set_option maxRecDepth 100000 in
theorem mf_X0_init : rz_mf mz_X0_init := ⟨ni0, rz_good (i := 109) rfl rfl, nc0, by decide, plainFor_of_name np0, rfl, dk_X0_init⟩
set_option maxRecDepth 100000 in
theorem mf_X0_reduce : rz_mf mz_X0_reduce := ⟨ni0, rz_good (i := 411) rfl rfl, nc0, by decide, plainFor_of_name np0, rfl, dk_X0_reduce⟩
set_option maxRecDepth 100000 in
theorem mf_X0_swap : rz_mf mz_X0_swap := ⟨ni0, rz_good (i := 415) rfl rfl, nc0, by decide, plainFor_of_name np0, rfl, dk_X0_swap⟩
set_option maxRecDepth 100000 in
theorem mf_X0_product : rz_mf mz_X0_product := ⟨ni0, rz_good (i := 420) rfl rfl, nc0, by decide, plainFor_of_name np0, rfl, dk_X0_product⟩
set_option maxRecDepth 100000 in
theorem mf_X0_turn : rz_mf mz_X0_turn := ⟨ni0, rz_good (i := 427) rfl rfl, nc0, by decide, plainFor_of_name np0, rfl, dk_X0_turn⟩
set_option maxRecDepth 100000 in
theorem mf_X0_seek : rz_mf mz_X0_seek := ⟨ni0, rz_good (i := 922) rfl rfl, nc0, by decide, plainFor_of_name np0, rfl, dk_X0_seek⟩
set_option maxRecDepth 100000 in
theorem mf_X0_compare : rz_mf mz_X0_compare := ⟨ni0, rz_good (i := 927) rfl rfl, nc0, by decide, plainFor_of_name np0, rfl, dk_X0_compare⟩
set_option maxRecDepth 100000 in
theorem mf_X1_init : rz_mf mz_X1_init := ⟨ni1, rz_good (i := 168) rfl rfl, nc1, by decide, plainFor_of_name np1, rfl, dk_X1_init⟩
set_option maxRecDepth 100000 in
theorem mf_X1_draw : rz_mf mz_X1_draw := ⟨ni1, rz_good (i := 949) rfl rfl, nc1, by decide, plainFor_of_name np1, rfl, dk_X1_draw⟩
set_option maxRecDepth 100000 in
theorem mf_X1_put : rz_mf mz_X1_put := ⟨ni1, rz_good (i := 956) rfl rfl, nc1, by decide, plainFor_of_name np1, rfl, dk_X1_put⟩
set_option maxRecDepth 100000 in
theorem mf_X1_findFirst : rz_mf mz_X1_findFirst := ⟨ni1, rz_good (i := 960) rfl rfl, nc1, by decide, plainFor_of_name np1, rfl, dk_X1_findFirst⟩
set_option maxRecDepth 100000 in
theorem mf_X1_overX : rz_mf mz_X1_overX := ⟨ni1, rz_good (i := 972) rfl rfl, nc1, by decide, plainFor_of_name np1, rfl, dk_X1_overX⟩
set_option maxRecDepth 100000 in
theorem mf_X1_overY : rz_mf mz_X1_overY := ⟨ni1, rz_good (i := 981) rfl rfl, nc1, by decide, plainFor_of_name np1, rfl, dk_X1_overY⟩
set_option maxRecDepth 100000 in
theorem mf_X1_placeOfCorner : rz_mf mz_X1_placeOfCorner := ⟨ni1, rz_good (i := 976) rfl rfl, nc1, by decide, plainFor_of_name np1, rfl, dk_X1_placeOfCorner⟩
set_option maxRecDepth 100000 in
theorem mf_X2_init : rz_mf mz_X2_init := ⟨ni2, rz_good (i := 241) rfl rfl, nc2, by decide, plainFor_of_name np2, rfl, dk_X2_init⟩
set_option maxRecDepth 100000 in
theorem mf_X2_cutAll : rz_mf mz_X2_cutAll := ⟨ni2, rz_good (i := 1151) rfl rfl, nc2, by decide, plainFor_of_name np2, rfl, dk_X2_cutAll⟩
set_option maxRecDepth 100000 in
theorem mf_X2_cutFirst : rz_mf mz_X2_cutFirst := ⟨ni2, rz_good (i := 1156) rfl rfl, nc2, by decide, plainFor_of_name np2, rfl, dk_X2_cutFirst⟩
set_option maxRecDepth 100000 in
theorem mf_X2_leftAt : rz_mf mz_X2_leftAt := ⟨ni2, rz_good (i := 1164) rfl rfl, nc2, by decide, plainFor_of_name np2, rfl, dk_X2_leftAt⟩
set_option maxRecDepth 100000 in
theorem mf_X2_remove : rz_mf mz_X2_remove := ⟨ni2, rz_good (i := 1175) rfl rfl, nc2, by decide, plainFor_of_name np2, rfl, dk_X2_remove⟩
set_option maxRecDepth 100000 in
theorem mf_X2_keep : rz_mf mz_X2_keep := ⟨ni2, rz_good (i := 1171) rfl rfl, nc2, by decide, plainFor_of_name np2, rfl, dk_X2_keep⟩
set_option maxRecDepth 100000 in
theorem mf_X2_isEar : rz_mf mz_X2_isEar := ⟨ni2, rz_good (i := 1160) rfl rfl, nc2, by decide, plainFor_of_name np2, rfl, dk_X2_isEar⟩
set_option maxRecDepth 100000 in
theorem mf_X2_cornerOf : rz_mf mz_X2_cornerOf := ⟨ni2, rz_good (i := 1245) rfl rfl, nc2, by decide, plainFor_of_name np2, rfl, dk_X2_cornerOf⟩
set_option maxRecDepth 100000 in
theorem mf_X3_init : rz_mf mz_X3_init := ⟨ni3, rz_good (i := 483) rfl rfl, nc3, by decide, plainFor_of_name np3, rfl, dk_X3_init⟩
set_option maxRecDepth 100000 in
theorem mf_X3_generated : rz_mf mz_X3_generated := ⟨ni3, rz_good (i := 474) rfl rfl, nc3, by decide, plainFor_of_name np3, rfl, dk_X3_generated⟩
set_option maxRecDepth 100000 in
theorem mf_X3_ofMultiples : rz_mf mz_X3_ofMultiples := ⟨ni3, rz_good (i := 764) rfl rfl, nc3, by decide, plainFor_of_name np3, rfl, dk_X3_ofMultiples⟩
set_option maxRecDepth 100000 in
theorem mf_X3_ranked : rz_mf mz_X3_ranked := ⟨ni3, rz_good (i := 775) rfl rfl, nc3, by decide, plainFor_of_name np3, rfl, dk_X3_ranked⟩
set_option maxRecDepth 100000 in
theorem mf_X3_joinOf : rz_mf mz_X3_joinOf := ⟨ni3, rz_good (i := 468) rfl rfl, nc3, by decide, plainFor_of_name np3, rfl, dk_X3_joinOf⟩
set_option maxRecDepth 100000 in
theorem mf_X3_meetWidth : rz_mf mz_X3_meetWidth := ⟨ni3, rz_good (i := 511) rfl rfl, nc3, by decide, plainFor_of_name np3, rfl, dk_X3_meetWidth⟩
set_option maxRecDepth 100000 in
theorem mf_X3_meetHeight : rz_mf mz_X3_meetHeight := ⟨ni3, rz_good (i := 514) rfl rfl, nc3, by decide, plainFor_of_name np3, rfl, dk_X3_meetHeight⟩
set_option maxRecDepth 100000 in
theorem mf_X3_meetIndex : rz_mf mz_X3_meetIndex := ⟨ni3, rz_good (i := 508) rfl rfl, nc3, by decide, plainFor_of_name np3, rfl, dk_X3_meetIndex⟩
set_option maxRecDepth 100000 in
theorem mf_X3_meetOf : rz_mf mz_X3_meetOf := ⟨ni3, rz_good (i := 518) rfl rfl, nc3, by decide, plainFor_of_name np3, rfl, dk_X3_meetOf⟩
set_option maxRecDepth 100000 in
theorem mf_X3_index : rz_mf mz_X3_index := ⟨ni3, rz_good (i := 462) rfl rfl, nc3, by decide, plainFor_of_name np3, rfl, dk_X3_index⟩
set_option maxRecDepth 100000 in
theorem mf_X3_contains : rz_mf mz_X3_contains := ⟨ni3, rz_good (i := 455) rfl rfl, nc3, by decide, plainFor_of_name np3, rfl, dk_X3_contains⟩
set_option maxRecDepth 100000 in
theorem mf_X3_isPartOf : rz_mf mz_X3_isPartOf := ⟨ni3, rz_good (i := 504) rfl rfl, nc3, by decide, plainFor_of_name np3, rfl, dk_X3_isPartOf⟩
set_option maxRecDepth 100000 in
theorem mf_X3_countUpTo : rz_mf mz_X3_countUpTo := ⟨ni3, rz_good (i := 904) rfl rfl, nc3, by decide, plainFor_of_name np3, rfl, dk_X3_countUpTo⟩
set_option maxRecDepth 100000 in
theorem mf_X3_classOf : rz_mf mz_X3_classOf := ⟨ni3, rz_good (i := 1271) rfl rfl, nc3, by decide, plainFor_of_name np3, rfl, dk_X3_classOf⟩
set_option maxRecDepth 100000 in
theorem mf_X4_init : rz_mf mz_X4_init := ⟨ni4, rz_good (i := 305) rfl rfl, nc4, by decide, plainFor_of_name np4, rfl, dk_X4_init⟩
set_option maxRecDepth 100000 in
theorem mf_X4_build : rz_mf mz_X4_build := ⟨ni4, rz_good (i := 600) rfl rfl, nc4, by decide, plainFor_of_name np4, rfl, dk_X4_build⟩
set_option maxRecDepth 100000 in
theorem mf_X4_lowest : rz_mf mz_X4_lowest := ⟨ni4, rz_good (i := 603) rfl rfl, nc4, by decide, plainFor_of_name np4, rfl, dk_X4_lowest⟩
set_option maxRecDepth 100000 in
theorem mf_X4_add : rz_mf mz_X4_add := ⟨ni4, rz_good (i := 619) rfl rfl, nc4, by decide, plainFor_of_name np4, rfl, dk_X4_add⟩
set_option maxRecDepth 100000 in
theorem mf_X4_xOf : rz_mf mz_X4_xOf := ⟨ni4, rz_good (i := 611) rfl rfl, nc4, by decide, plainFor_of_name np4, rfl, dk_X4_xOf⟩
set_option maxRecDepth 100000 in
theorem mf_X4_yOf : rz_mf mz_X4_yOf := ⟨ni4, rz_good (i := 615) rfl rfl, nc4, by decide, plainFor_of_name np4, rfl, dk_X4_yOf⟩
set_option maxRecDepth 100000 in
theorem mf_X4_turn : rz_mf mz_X4_turn := ⟨ni4, rz_good (i := 607) rfl rfl, nc4, by decide, plainFor_of_name np4, rfl, dk_X4_turn⟩
set_option maxRecDepth 100000 in
theorem mf_X4_bendsUp : rz_mf mz_X4_bendsUp := ⟨ni4, rz_good (i := 623) rfl rfl, nc4, by decide, plainFor_of_name np4, rfl, dk_X4_bendsUp⟩
set_option maxRecDepth 100000 in
theorem mf_X4_liesBelowAll : rz_mf mz_X4_liesBelowAll := ⟨ni4, rz_good (i := 627) rfl rfl, nc4, by decide, plainFor_of_name np4, rfl, dk_X4_liesBelowAll⟩
set_option maxRecDepth 100000 in
theorem mf_X5_init : rz_mf mz_X5_init := ⟨ni5, rz_good (i := 289) rfl rfl, nc5, by decide, plainFor_of_name np5, rfl, dk_X5_init⟩
set_option maxRecDepth 100000 in
theorem mf_X5_countTo : rz_mf mz_X5_countTo := ⟨ni5, rz_good (i := 1305) rfl rfl, nc5, by decide, plainFor_of_name np5, rfl, dk_X5_countTo⟩
set_option maxRecDepth 100000 in
theorem mf_X5_leapFrom : rz_mf mz_X5_leapFrom := ⟨ni5, rz_good (i := 1317) rfl rfl, nc5, by decide, plainFor_of_name np5, rfl, dk_X5_leapFrom⟩
set_option maxRecDepth 100000 in
theorem mf_X5_comeTo : rz_mf mz_X5_comeTo := ⟨ni5, rz_good (i := 1313) rfl rfl, nc5, by decide, plainFor_of_name np5, rfl, dk_X5_comeTo⟩
set_option maxRecDepth 100000 in
theorem mf_X5_placeOfPoint : rz_mf mz_X5_placeOfPoint := ⟨ni5, rz_good (i := 1309) rfl rfl, nc5, by decide, plainFor_of_name np5, rfl, dk_X5_placeOfPoint⟩
set_option maxRecDepth 100000 in
theorem mf_X6_init : rz_mf mz_X6_init := ⟨ni6, rz_good (i := 235) rfl rfl, nc6, by decide, plainFor_of_name np6, rfl, dk_X6_init⟩
set_option maxRecDepth 100000 in
theorem mf_X6_type : rz_mf mz_X6_type := ⟨ni6, rz_good (i := 1110) rfl rfl, nc6, by decide, plainFor_of_name np6, rfl, dk_X6_type⟩
set_option maxRecDepth 100000 in
theorem mf_X6_takeAway : rz_mf mz_X6_takeAway := ⟨ni6, rz_good (i := 362) rfl rfl, nc6, by decide, plainFor_of_name np6, rfl, dk_X6_takeAway⟩
set_option maxRecDepth 100000 in
theorem mf_X6_shut : rz_mf mz_X6_shut := ⟨ni6, rz_good (i := 1147) rfl rfl, nc6, by decide, plainFor_of_name np6, rfl, dk_X6_shut⟩
set_option maxRecDepth 100000 in
theorem mf_X6_xOf : rz_mf mz_X6_xOf := ⟨ni6, rz_good (i := 386) rfl rfl, nc6, by decide, plainFor_of_name np6, rfl, dk_X6_xOf⟩
set_option maxRecDepth 100000 in
theorem mf_X6_yOf : rz_mf mz_X6_yOf := ⟨ni6, rz_good (i := 390) rfl rfl, nc6, by decide, plainFor_of_name np6, rfl, dk_X6_yOf⟩
set_option maxRecDepth 100000 in
theorem mf_X6_after : rz_mf mz_X6_after := ⟨ni6, rz_good (i := 548) rfl rfl, nc6, by decide, plainFor_of_name np6, rfl, dk_X6_after⟩
set_option maxRecDepth 100000 in
theorem mf_X6_turn : rz_mf mz_X6_turn := ⟨ni6, rz_good (i := 1138) rfl rfl, nc6, by decide, plainFor_of_name np6, rfl, dk_X6_turn⟩
set_option maxRecDepth 100000 in
theorem mf_X6_signedArea : rz_mf mz_X6_signedArea := ⟨ni6, rz_good (i := 566) rfl rfl, nc6, by decide, plainFor_of_name np6, rfl, dk_X6_signedArea⟩
set_option maxRecDepth 100000 in
theorem mf_X6_twiceArea : rz_mf mz_X6_twiceArea := ⟨ni6, rz_good (i := 562) rfl rfl, nc6, by decide, plainFor_of_name np6, rfl, dk_X6_twiceArea⟩
set_option maxRecDepth 100000 in
theorem mf_X6_rimPoints : rz_mf mz_X6_rimPoints := ⟨ni6, rz_good (i := 573) rfl rfl, nc6, by decide, plainFor_of_name np6, rfl, dk_X6_rimPoints⟩
set_option maxRecDepth 100000 in
theorem mf_X6_isProper : rz_mf mz_X6_isProper := ⟨ni6, rz_good (i := 1122) rfl rfl, nc6, by decide, plainFor_of_name np6, rfl, dk_X6_isProper⟩
set_option maxRecDepth 100000 in
theorem mf_X6_foldsBack : rz_mf mz_X6_foldsBack := ⟨ni6, rz_good (i := 1126) rfl rfl, nc6, by decide, plainFor_of_name np6, rfl, dk_X6_foldsBack⟩
set_option maxRecDepth 100000 in
theorem mf_X6_sidesMeet : rz_mf mz_X6_sidesMeet := ⟨ni6, rz_good (i := 1130) rfl rfl, nc6, by decide, plainFor_of_name np6, rfl, dk_X6_sidesMeet⟩
set_option maxRecDepth 100000 in
theorem mf_X6_isOn : rz_mf mz_X6_isOn := ⟨ni6, rz_good (i := 1134) rfl rfl, nc6, by decide, plainFor_of_name np6, rfl, dk_X6_isOn⟩
set_option maxRecDepth 100000 in
theorem mf_X6_crosses : rz_mf mz_X6_crosses := ⟨ni6, rz_good (i := 1142) rfl rfl, nc6, by decide, plainFor_of_name np6, rfl, dk_X6_crosses⟩
set_option maxRecDepth 100000 in
theorem mf_X6_placeOf : rz_mf mz_X6_placeOf := ⟨ni6, rz_good (i := 1207) rfl rfl, nc6, by decide, plainFor_of_name np6, rfl, dk_X6_placeOf⟩
set_option maxRecDepth 100000 in
theorem mf_X6_findSidesAt : rz_mf mz_X6_findSidesAt := ⟨ni6, rz_good (i := 544) rfl rfl, nc6, by decide, plainFor_of_name np6, rfl, dk_X6_findSidesAt⟩
set_option maxRecDepth 100000 in
theorem mf_X6_placeInRow : rz_mf mz_X6_placeInRow := ⟨ni6, rz_good (i := 558) rfl rfl, nc6, by decide, plainFor_of_name np6, rfl, dk_X6_placeInRow⟩
set_option maxRecDepth 100000 in
theorem mf_X6_turnsOneWay : rz_mf mz_X6_turnsOneWay := ⟨ni6, rz_good (i := 1218) rfl rfl, nc6, by decide, plainFor_of_name np6, rfl, dk_X6_turnsOneWay⟩
set_option maxRecDepth 100000 in
theorem mf_X6_isUpright : rz_mf mz_X6_isUpright := ⟨ni6, rz_good (i := 1256) rfl rfl, nc6, by decide, plainFor_of_name np6, rfl, dk_X6_isUpright⟩
set_option maxRecDepth 100000 in
theorem mf_X6_fillsBy : rz_mf mz_X6_fillsBy := ⟨ni6, rz_good (i := 1261) rfl rfl, nc6, by decide, plainFor_of_name np6, rfl, dk_X6_fillsBy⟩
set_option maxRecDepth 100000 in
theorem mf_X6_isMarked : rz_mf mz_X6_isMarked := ⟨ni6, rz_good (i := 1278) rfl rfl, nc6, by decide, plainFor_of_name np6, rfl, dk_X6_isMarked⟩
set_option maxRecDepth 100000 in
theorem mf_X6_hasSquare : rz_mf mz_X6_hasSquare := ⟨ni6, rz_good (i := 1267) rfl rfl, nc6, by decide, plainFor_of_name np6, rfl, dk_X6_hasSquare⟩
set_option maxRecDepth 100000 in
theorem mf_X6_least : rz_mf mz_X6_least := ⟨ni6, rz_good (i := 530) rfl rfl, nc6, by decide, plainFor_of_name np6, rfl, dk_X6_least⟩
set_option maxRecDepth 100000 in
theorem mf_X6_greatest : rz_mf mz_X6_greatest := ⟨ni6, rz_good (i := 537) rfl rfl, nc6, by decide, plainFor_of_name np6, rfl, dk_X6_greatest⟩
set_option maxRecDepth 100000 in
theorem mf_X6_countsAgree : rz_mf mz_X6_countsAgree := ⟨ni6, rz_good (i := 526) rfl rfl, nc6, by decide, plainFor_of_name np6, rfl, dk_X6_countsAgree⟩
set_option maxRecDepth 100000 in
theorem mf_X6_addTo : rz_mf mz_X6_addTo := ⟨ni6, rz_good (i := 381) rfl rfl, nc6, by decide, plainFor_of_name np6, rfl, dk_X6_addTo⟩
set_option maxRecDepth 100000 in
theorem mf_X7_init : rz_mf mz_X7_init := ⟨ni7, rz_good (i := 207) rfl rfl, nc7, by decide, plainFor_of_name np7, rfl, dk_X7_init⟩
set_option maxRecDepth 100000 in
theorem mf_X7_areValues : rz_mf mz_X7_areValues := ⟨ni7, rz_good (i := 1023) rfl rfl, nc7, by decide, plainFor_of_name np7, rfl, dk_X7_areValues⟩
set_option maxRecDepth 100000 in
theorem mf_X7_isValue : rz_mf mz_X7_isValue := ⟨ni7, rz_good (i := 1026) rfl rfl, nc7, by decide, plainFor_of_name np7, rfl, dk_X7_isValue⟩
set_option maxRecDepth 100000 in
theorem mf_X7_take : rz_mf mz_X7_take := ⟨ni7, rz_good (i := 1032) rfl rfl, nc7, by decide, plainFor_of_name np7, rfl, dk_X7_take⟩
set_option maxRecDepth 100000 in
theorem mf_X7_addKind : rz_mf mz_X7_addKind := ⟨ni7, rz_good (i := 1039) rfl rfl, nc7, by decide, plainFor_of_name np7, rfl, dk_X7_addKind⟩
set_option maxRecDepth 100000 in
theorem mf_X7_countLacks : rz_mf mz_X7_countLacks := ⟨ni7, rz_good (i := 1043) rfl rfl, nc7, by decide, plainFor_of_name np7, rfl, dk_X7_countLacks⟩
set_option maxRecDepth 100000 in
theorem mf_X7_lackOf : rz_mf mz_X7_lackOf := ⟨ni7, rz_good (i := 1067) rfl rfl, nc7, by decide, plainFor_of_name np7, rfl, dk_X7_lackOf⟩
set_option maxRecDepth 100000 in
theorem mf_X7_leastCoins : rz_mf mz_X7_leastCoins := ⟨ni7, rz_good (i := 582) rfl rfl, nc7, by decide, plainFor_of_name np7, rfl, dk_X7_leastCoins⟩
set_option maxRecDepth 100000 in
theorem mf_X7_wayCount : rz_mf mz_X7_wayCount := ⟨ni7, rz_good (i := 1094) rfl rfl, nc7, by decide, plainFor_of_name np7, rfl, dk_X7_wayCount⟩
set_option maxRecDepth 100000 in
theorem mf_X7_addTo : rz_mf mz_X7_addTo := ⟨ni7, rz_good (i := 376) rfl rfl, nc7, by decide, plainFor_of_name np7, rfl, dk_X7_addTo⟩
set_option maxRecDepth 100000 in
theorem mf_X7_lacksAreHalf : rz_mf mz_X7_lacksAreHalf := ⟨ni7, rz_good (i := 578) rfl rfl, nc7, by decide, plainFor_of_name np7, rfl, dk_X7_lacksAreHalf⟩
set_option maxRecDepth 100000 in
theorem mf_X8_init : rz_mf mz_X8_init := ⟨ni8, rz_good (i := 148) rfl rfl, nc8, by decide, plainFor_of_name np8, rfl, dk_X8_init⟩
set_option maxRecDepth 100000 in
theorem mf_X8_fill : rz_mf mz_X8_fill := ⟨ni8, rz_good (i := 431) rfl rfl, nc8, by decide, plainFor_of_name np8, rfl, dk_X8_fill⟩
set_option maxRecDepth 100000 in
theorem mf_X8_add : rz_mf mz_X8_add := ⟨ni8, rz_good (i := 435) rfl rfl, nc8, by decide, plainFor_of_name np8, rfl, dk_X8_add⟩
set_option maxRecDepth 100000 in
theorem mf_X8_isAhead : rz_mf mz_X8_isAhead := ⟨ni8, rz_good (i := 439) rfl rfl, nc8, by decide, plainFor_of_name np8, rfl, dk_X8_isAhead⟩
set_option maxRecDepth 100000 in
theorem mf_X8_xOf : rz_mf mz_X8_xOf := ⟨ni8, rz_good (i := 447) rfl rfl, nc8, by decide, plainFor_of_name np8, rfl, dk_X8_xOf⟩
set_option maxRecDepth 100000 in
theorem mf_X8_yOf : rz_mf mz_X8_yOf := ⟨ni8, rz_good (i := 451) rfl rfl, nc8, by decide, plainFor_of_name np8, rfl, dk_X8_yOf⟩
set_option maxRecDepth 100000 in
theorem mf_X8_firstAside : rz_mf mz_X8_firstAside := ⟨ni8, rz_good (i := 443) rfl rfl, nc8, by decide, plainFor_of_name np8, rfl, dk_X8_firstAside⟩
set_option maxRecDepth 100000 in
theorem mf_X9_init : rz_mf mz_X9_init := ⟨ni9, rz_good (i := 192) rfl rfl, nc9, by decide, plainFor_of_name np9, rfl, dk_X9_init⟩
set_option maxRecDepth 100000 in
theorem mf_X9_sign : rz_mf mz_X9_sign := ⟨ni9, rz_good (i := 1013) rfl rfl, nc9, by decide, plainFor_of_name np9, rfl, dk_X9_sign⟩
set_option maxRecDepth 100000 in
theorem mf_X9_becomeNumber : rz_mf mz_X9_becomeNumber := ⟨ni9, rz_good (i := 1098) rfl rfl, nc9, by decide, plainFor_of_name np9, rfl, dk_X9_becomeNumber⟩
set_option maxRecDepth 100000 in
theorem mf_X9_becomeFraction : rz_mf mz_X9_becomeFraction := ⟨ni9, rz_good (i := 985) rfl rfl, nc9, by decide, plainFor_of_name np9, rfl, dk_X9_becomeFraction⟩
set_option maxRecDepth 100000 in
theorem mf_X9_becomeProductAndOne : rz_mf mz_X9_becomeProductAndOne := ⟨ni9, rz_good (i := 1230) rfl rfl, nc9, by decide, plainFor_of_name np9, rfl, dk_X9_becomeProductAndOne⟩
set_option maxRecDepth 100000 in
theorem mf_X9_putNumber : rz_mf mz_X9_putNumber := ⟨ni9, rz_good (i := 990) rfl rfl, nc9, by decide, plainFor_of_name np9, rfl, dk_X9_putNumber⟩
set_option maxRecDepth 100000 in
theorem mf_X9_putDigits : rz_mf mz_X9_putDigits := ⟨ni9, rz_good (i := 1000) rfl rfl, nc9, by decide, plainFor_of_name np9, rfl, dk_X9_putDigits⟩
set_option maxRecDepth 100000 in
theorem mf_X9_putSign : rz_mf mz_X9_putSign := ⟨ni9, rz_good (i := 994) rfl rfl, nc9, by decide, plainFor_of_name np9, rfl, dk_X9_putSign⟩
set_option maxRecDepth 100000 in
theorem mf_X9_addTo : rz_mf mz_X9_addTo := ⟨ni9, rz_good (i := 394) rfl rfl, nc9, by decide, plainFor_of_name np9, rfl, dk_X9_addTo⟩
set_option maxRecDepth 100000 in
theorem mf_X10_init : rz_mf mz_X10_init := ⟨ni10, rz_good (i := 99) rfl rfl, nc10, by decide, plainFor_of_name np10, rfl, dk_X10_init⟩
set_option maxRecDepth 100000 in
theorem mf_X10_spanned : rz_mf mz_X10_spanned := ⟨ni10, rz_good (i := 637) rfl rfl, nc10, by decide, plainFor_of_name np10, rfl, dk_X10_spanned⟩
set_option maxRecDepth 100000 in
theorem mf_X10_remainder : rz_mf mz_X10_remainder := ⟨ni10, rz_good (i := 761) rfl rfl, nc10, by decide, plainFor_of_name np10, rfl, dk_X10_remainder⟩
set_option maxRecDepth 100000 in
theorem mf_X10_nth : rz_mf mz_X10_nth := ⟨ni10, rz_good (i := 772) rfl rfl, nc10, by decide, plainFor_of_name np10, rfl, dk_X10_nth⟩
set_option maxRecDepth 100000 in
theorem mf_X10_grids : rz_mf mz_X10_grids := ⟨ni10, rz_good (i := 798) rfl rfl, nc10, by decide, plainFor_of_name np10, rfl, dk_X10_grids⟩
set_option maxRecDepth 100000 in
theorem mf_X10_form : rz_mf mz_X10_form := ⟨ni10, rz_good (i := 805) rfl rfl, nc10, by decide, plainFor_of_name np10, rfl, dk_X10_form⟩
set_option maxRecDepth 100000 in
theorem mf_X10_has : rz_mf mz_X10_has := ⟨ni10, rz_good (i := 818) rfl rfl, nc10, by decide, plainFor_of_name np10, rfl, dk_X10_has⟩
set_option maxRecDepth 100000 in
theorem mf_X10_isSame : rz_mf mz_X10_isSame := ⟨ni10, rz_good (i := 825) rfl rfl, nc10, by decide, plainFor_of_name np10, rfl, dk_X10_isSame⟩
set_option maxRecDepth 100000 in
theorem mf_X10_parts : rz_mf mz_X10_parts := ⟨ni10, rz_good (i := 832) rfl rfl, nc10, by decide, plainFor_of_name np10, rfl, dk_X10_parts⟩
set_option maxRecDepth 100000 in
theorem mf_X10_meet : rz_mf mz_X10_meet := ⟨ni10, rz_good (i := 841) rfl rfl, nc10, by decide, plainFor_of_name np10, rfl, dk_X10_meet⟩
set_option maxRecDepth 100000 in
theorem mf_X10_join : rz_mf mz_X10_join := ⟨ni10, rz_good (i := 864) rfl rfl, nc10, by decide, plainFor_of_name np10, rfl, dk_X10_join⟩
set_option maxRecDepth 100000 in
theorem mf_X10_undo : rz_mf mz_X10_undo := ⟨ni10, rz_good (i := 871) rfl rfl, nc10, by decide, plainFor_of_name np10, rfl, dk_X10_undo⟩
set_option maxRecDepth 100000 in
theorem mf_X10_stepX : rz_mf mz_X10_stepX := ⟨ni10, rz_good (i := 879) rfl rfl, nc10, by decide, plainFor_of_name np10, rfl, dk_X10_stepX⟩
set_option maxRecDepth 100000 in
theorem mf_X10_stepY : rz_mf mz_X10_stepY := ⟨ni10, rz_good (i := 886) rfl rfl, nc10, by decide, plainFor_of_name np10, rfl, dk_X10_stepY⟩
set_option maxRecDepth 100000 in
theorem mf_X10_second : rz_mf mz_X10_second := ⟨ni10, rz_good (i := 893) rfl rfl, nc10, by decide, plainFor_of_name np10, rfl, dk_X10_second⟩
set_option maxRecDepth 100000 in
theorem mf_X10_steps : rz_mf mz_X10_steps := ⟨ni10, rz_good (i := 900) rfl rfl, nc10, by decide, plainFor_of_name np10, rfl, dk_X10_steps⟩
set_option maxRecDepth 100000 in
theorem mf_X10_nearX : rz_mf mz_X10_nearX := ⟨ni10, rz_good (i := 914) rfl rfl, nc10, by decide, plainFor_of_name np10, rfl, dk_X10_nearX⟩
set_option maxRecDepth 100000 in
theorem mf_X10_nearY : rz_mf mz_X10_nearY := ⟨ni10, rz_good (i := 934) rfl rfl, nc10, by decide, plainFor_of_name np10, rfl, dk_X10_nearY⟩
set_option maxRecDepth 100000 in
theorem mf_X10_corners : rz_mf mz_X10_corners := ⟨ni10, rz_good (i := 941) rfl rfl, nc10, by decide, plainFor_of_name np10, rfl, dk_X10_corners⟩
set_option maxRecDepth 100000 in
theorem mf_X10_tellCorner : rz_mf mz_X10_tellCorner := ⟨ni10, rz_good (i := 967) rfl rfl, nc10, by decide, plainFor_of_name np10, rfl, dk_X10_tellCorner⟩
set_option maxRecDepth 100000 in
theorem mf_X10_signAt : rz_mf mz_X10_signAt := ⟨ni10, rz_good (i := 1008) rfl rfl, nc10, by decide, plainFor_of_name np10, rfl, dk_X10_signAt⟩
set_option maxRecDepth 100000 in
theorem mf_X10_coins : rz_mf mz_X10_coins := ⟨ni10, rz_good (i := 1020) rfl rfl, nc10, by decide, plainFor_of_name np10, rfl, dk_X10_coins⟩
set_option maxRecDepth 100000 in
theorem mf_X10_lacks : rz_mf mz_X10_lacks := ⟨ni10, rz_good (i := 1050) rfl rfl, nc10, by decide, plainFor_of_name np10, rfl, dk_X10_lacks⟩
set_option maxRecDepth 100000 in
theorem mf_X10_lackAt : rz_mf mz_X10_lackAt := ⟨ni10, rz_good (i := 1062) rfl rfl, nc10, by decide, plainFor_of_name np10, rfl, dk_X10_lackAt⟩
set_option maxRecDepth 100000 in
theorem mf_X10_canMake : rz_mf mz_X10_canMake := ⟨ni10, rz_good (i := 1074) rfl rfl, nc10, by decide, plainFor_of_name np10, rfl, dk_X10_canMake⟩
set_option maxRecDepth 100000 in
theorem mf_X10_fewest : rz_mf mz_X10_fewest := ⟨ni10, rz_good (i := 1082) rfl rfl, nc10, by decide, plainFor_of_name np10, rfl, dk_X10_fewest⟩
set_option maxRecDepth 100000 in
theorem mf_X10_ways : rz_mf mz_X10_ways := ⟨ni10, rz_good (i := 1090) rfl rfl, nc10, by decide, plainFor_of_name np10, rfl, dk_X10_ways⟩
set_option maxRecDepth 100000 in
theorem mf_X10_corner : rz_mf mz_X10_corner := ⟨ni10, rz_good (i := 1105) rfl rfl, nc10, by decide, plainFor_of_name np10, rfl, dk_X10_corner⟩
set_option maxRecDepth 100000 in
theorem mf_X10_clear : rz_mf mz_X10_clear := ⟨ni10, rz_good (i := 358) rfl rfl, nc10, by decide, plainFor_of_name np10, rfl, dk_X10_clear⟩
set_option maxRecDepth 100000 in
theorem mf_X10_close : rz_mf mz_X10_close := ⟨ni10, rz_good (i := 1117) rfl rfl, nc10, by decide, plainFor_of_name np10, rfl, dk_X10_close⟩
set_option maxRecDepth 100000 in
theorem mf_X10_rim : rz_mf mz_X10_rim := ⟨ni10, rz_good (i := 1183) rfl rfl, nc10, by decide, plainFor_of_name np10, rfl, dk_X10_rim⟩
set_option maxRecDepth 100000 in
theorem mf_X10_within : rz_mf mz_X10_within := ⟨ni10, rz_good (i := 1196) rfl rfl, nc10, by decide, plainFor_of_name np10, rfl, dk_X10_within⟩
set_option maxRecDepth 100000 in
theorem mf_X10_where : rz_mf mz_X10_where := ⟨ni10, rz_good (i := 1203) rfl rfl, nc10, by decide, plainFor_of_name np10, rfl, dk_X10_where⟩
set_option maxRecDepth 100000 in
theorem mf_X10_isConvex : rz_mf mz_X10_isConvex := ⟨ni10, rz_good (i := 1214) rfl rfl, nc10, by decide, plainFor_of_name np10, rfl, dk_X10_isConvex⟩
set_option maxRecDepth 100000 in
theorem mf_X10_grown : rz_mf mz_X10_grown := ⟨ni10, rz_good (i := 1225) rfl rfl, nc10, by decide, plainFor_of_name np10, rfl, dk_X10_grown⟩
set_option maxRecDepth 100000 in
theorem mf_X10_triangleAt : rz_mf mz_X10_triangleAt := ⟨ni10, rz_good (i := 1240) rfl rfl, nc10, by decide, plainFor_of_name np10, rfl, dk_X10_triangleAt⟩
set_option maxRecDepth 100000 in
theorem mf_X10_tiles : rz_mf mz_X10_tiles := ⟨ni10, rz_good (i := 1252) rfl rfl, nc10, by decide, plainFor_of_name np10, rfl, dk_X10_tiles⟩
set_option maxRecDepth 100000 in
theorem mf_X10_seen : rz_mf mz_X10_seen := ⟨ni10, rz_good (i := 1285) rfl rfl, nc10, by decide, plainFor_of_name np10, rfl, dk_X10_seen⟩
set_option maxRecDepth 100000 in
theorem mf_X10_seenAt : rz_mf mz_X10_seenAt := ⟨ni10, rz_good (i := 1292) rfl rfl, nc10, by decide, plainFor_of_name np10, rfl, dk_X10_seenAt⟩
set_option maxRecDepth 100000 in
theorem mf_X10_leaps : rz_mf mz_X10_leaps := ⟨ni10, rz_good (i := 1300) rfl rfl, nc10, by decide, plainFor_of_name np10, rfl, dk_X10_leaps⟩
set_option maxRecDepth 100000 in
theorem mf_X10_terms : rz_mf mz_X10_terms := ⟨ni10, rz_good (i := 1329) rfl rfl, nc10, by decide, plainFor_of_name np10, rfl, dk_X10_terms⟩
set_option maxRecDepth 100000 in
theorem mf_X10_termAt : rz_mf mz_X10_termAt := ⟨ni10, rz_good (i := 1342) rfl rfl, nc10, by decide, plainFor_of_name np10, rfl, dk_X10_termAt⟩
set_option maxRecDepth 100000 in
theorem mf_X10_hull : rz_mf mz_X10_hull := ⟨ni10, rz_good (i := 1353) rfl rfl, nc10, by decide, plainFor_of_name np10, rfl, dk_X10_hull⟩
set_option maxRecDepth 100000 in
theorem mf_X10_hullAt : rz_mf mz_X10_hullAt := ⟨ni10, rz_good (i := 1360) rfl rfl, nc10, by decide, plainFor_of_name np10, rfl, dk_X10_hullAt⟩
set_option maxRecDepth 100000 in
theorem mf_X10_held : rz_mf mz_X10_held := ⟨ni10, rz_good (i := 366) rfl rfl, nc10, by decide, plainFor_of_name np10, rfl, dk_X10_held⟩
set_option maxRecDepth 100000 in
theorem mf_X10_checksum : rz_mf mz_X10_checksum := ⟨ni10, rz_good (i := 370) rfl rfl, nc10, by decide, plainFor_of_name np10, rfl, dk_X10_checksum⟩
set_option maxRecDepth 100000 in
theorem mf_X10_isSound : rz_mf mz_X10_isSound := ⟨ni10, rz_good (i := 399) rfl rfl, nc10, by decide, plainFor_of_name np10, rfl, dk_X10_isSound⟩
set_option maxRecDepth 100000 in
theorem mf_X10_checkSlot : rz_mf mz_X10_checkSlot := ⟨ni10, rz_good (i := 640) rfl rfl, nc10, by decide, plainFor_of_name np10, rfl, dk_X10_checkSlot⟩
set_option maxRecDepth 100000 in
theorem mf_X10_checkRange : rz_mf mz_X10_checkRange := ⟨ni10, rz_good (i := 713) rfl rfl, nc10, by decide, plainFor_of_name np10, rfl, dk_X10_checkRange⟩
set_option maxRecDepth 100000 in
theorem mf_X10_checkFraction : rz_mf mz_X10_checkFraction := ⟨ni10, rz_good (i := 1332) rfl rfl, nc10, by decide, plainFor_of_name np10, rfl, dk_X10_checkFraction⟩
set_option maxRecDepth 100000 in
theorem mf_X10_checkCoins : rz_mf mz_X10_checkCoins := ⟨ni10, rz_good (i := 1054) rfl rfl, nc10, by decide, plainFor_of_name np10, rfl, dk_X10_checkCoins⟩
set_option maxRecDepth 100000 in
theorem mf_X10_checkClosed : rz_mf mz_X10_checkClosed := ⟨ni10, rz_good (i := 1187) rfl rfl, nc10, by decide, plainFor_of_name np10, rfl, dk_X10_checkClosed⟩
set_option maxRecDepth 100000 in
theorem mf_X10_gridIn : rz_mf mz_X10_gridIn := ⟨ni10, rz_good (i := 810) rfl rfl, nc10, by decide, plainFor_of_name np10, rfl, dk_X10_gridIn⟩
set_option maxRecDepth 100000 in
theorem mf_X10_become : rz_mf mz_X10_become := ⟨ni10, rz_good (i := 750) rfl rfl, nc10, by decide, plainFor_of_name np10, rfl, dk_X10_become⟩
set_option maxRecDepth 100000 in
theorem mf_X10_forgetOldest : rz_mf mz_X10_forgetOldest := ⟨ni10, rz_good (i := 754) rfl rfl, nc10, by decide, plainFor_of_name np10, rfl, dk_X10_forgetOldest⟩
set_option maxRecDepth 100000 in
theorem mf_X10_listSteps : rz_mf mz_X10_listSteps := ⟨ni10, rz_good (i := 407) rfl rfl, nc10, by decide, plainFor_of_name np10, rfl, dk_X10_listSteps⟩
set_option maxRecDepth 100000 in
theorem mf_X10_drawCell : rz_mf mz_X10_drawCell := ⟨ni10, rz_good (i := 945) rfl rfl, nc10, by decide, plainFor_of_name np10, rfl, dk_X10_drawCell⟩
set_option maxRecDepth 100000 in
theorem mf_X10_seekNearest : rz_mf mz_X10_seekNearest := ⟨ni10, rz_good (i := 918) rfl rfl, nc10, by decide, plainFor_of_name np10, rfl, dk_X10_seekNearest⟩
set_option maxRecDepth 100000 in
theorem mf_X10_gcd : rz_mf mz_X10_gcd := ⟨ni10, rz_good (i := 471) rfl rfl, nc10, by decide, plainFor_of_name np10, rfl, dk_X10_gcd⟩
set_option maxRecDepth 100000 in
theorem mf_X10_countTerms : rz_mf mz_X10_countTerms := ⟨ni10, rz_good (i := 1335) rfl rfl, nc10, by decide, plainFor_of_name np10, rfl, dk_X10_countTerms⟩
set_option maxRecDepth 100000 in
theorem mf_X10_findTerm : rz_mf mz_X10_findTerm := ⟨ni10, rz_good (i := 1346) rfl rfl, nc10, by decide, plainFor_of_name np10, rfl, dk_X10_findTerm⟩
set_option maxRecDepth 100000 in
theorem mf_X10_countSeen : rz_mf mz_X10_countSeen := ⟨ni10, rz_good (i := 588) rfl rfl, nc10, by decide, plainFor_of_name np10, rfl, dk_X10_countSeen⟩
set_option maxRecDepth 100000 in
theorem mf_X10_findSeen : rz_mf mz_X10_findSeen := ⟨ni10, rz_good (i := 592) rfl rfl, nc10, by decide, plainFor_of_name np10, rfl, dk_X10_findSeen⟩
set_option maxRecDepth 100000 in
theorem mf_X10_leastStepsSpan : rz_mf mz_X10_leastStepsSpan := ⟨ni10, rz_good (i := 403) rfl rfl, nc10, by decide, plainFor_of_name np10, rfl, dk_X10_leastStepsSpan⟩
set_option maxRecDepth 100000 in
theorem mf_X10_indexesAgree : rz_mf mz_X10_indexesAgree := ⟨ni10, rz_good (i := 465) rfl rfl, nc10, by decide, plainFor_of_name np10, rfl, dk_X10_indexesAgree⟩
set_option maxRecDepth 100000 in
theorem mf_X10_polygonAgrees : rz_mf mz_X10_polygonAgrees := ⟨ni10, rz_good (i := 522) rfl rfl, nc10, by decide, plainFor_of_name np10, rfl, dk_X10_polygonAgrees⟩
set_option maxRecDepth 100000 in
theorem mf_X10_seenNeighboursSpan : rz_mf mz_X10_seenNeighboursSpan := ⟨ni10, rz_good (i := 585) rfl rfl, nc10, by decide, plainFor_of_name np10, rfl, dk_X10_seenNeighboursSpan⟩
set_option maxRecDepth 100000 in
theorem mf_X10_hullIsLowest : rz_mf mz_X10_hullIsLowest := ⟨ni10, rz_good (i := 596) rfl rfl, nc10, by decide, plainFor_of_name np10, rfl, dk_X10_hullIsLowest⟩
set_option maxRecDepth 100000 in
theorem mf_X11_init : rz_mf mz_X11_init := ⟨ni11, rz_good (i := 1368) rfl rfl, nc11, by decide, plainFor_of_name np11, rfl, dk_X11_init⟩
set_option maxRecDepth 100000 in
theorem mf_X11_thrown : rz_mf mz_X11_thrown := ⟨ni11, rz_good (i := 1438) rfl rfl, nc11, by decide, plainFor_of_name np11, rfl, dk_X11_thrown⟩
set_option maxRecDepth 100000 in
theorem mf_X11_no : rz_mf mz_X11_no := ⟨ni11, rz_good (i := 1452) rfl rfl, nc11, by decide, plainFor_of_name np11, rfl, dk_X11_no⟩
set_option maxRecDepth 100000 in
theorem mf_X11_in : rz_mf mz_X11_in := ⟨ni11, rz_good (i := 1448) rfl rfl, nc11, by decide, plainFor_of_name np11, rfl, dk_X11_in⟩
set_option maxRecDepth 100000 in
theorem mf_X11_isSlot : rz_mf mz_X11_isSlot := ⟨ni11, rz_good (i := 1445) rfl rfl, nc11, by decide, plainFor_of_name np11, rfl, dk_X11_isSlot⟩
set_option maxRecDepth 100000 in
theorem mf_X11_gcd : rz_mf mz_X11_gcd := ⟨ni11, rz_good (i := 1455) rfl rfl, nc11, by decide, plainFor_of_name np11, rfl, dk_X11_gcd⟩
set_option maxRecDepth 100000 in
theorem mf_X11_mod : rz_mf mz_X11_mod := ⟨ni11, rz_good (i := 1461) rfl rfl, nc11, by decide, plainFor_of_name np11, rfl, dk_X11_mod⟩
set_option maxRecDepth 100000 in
theorem mf_X11_becomes : rz_mf mz_X11_becomes := ⟨ni11, rz_good (i := 1465) rfl rfl, nc11, by decide, plainFor_of_name np11, rfl, dk_X11_becomes⟩
set_option maxRecDepth 100000 in
theorem mf_X11_highOf : rz_mf mz_X11_highOf := ⟨ni11, rz_good (i := 1458) rfl rfl, nc11, by decide, plainFor_of_name np11, rfl, dk_X11_highOf⟩
set_option maxRecDepth 100000 in
theorem mf_X11_spanned : rz_mf mz_X11_spanned := ⟨ni11, rz_good (i := 1442) rfl rfl, nc11, by decide, plainFor_of_name np11, rfl, dk_X11_spanned⟩
set_option maxRecDepth 100000 in
theorem mf_X11_remainder : rz_mf mz_X11_remainder := ⟨ni11, rz_good (i := 1469) rfl rfl, nc11, by decide, plainFor_of_name np11, rfl, dk_X11_remainder⟩
set_option maxRecDepth 100000 in
theorem mf_X11_nth : rz_mf mz_X11_nth := ⟨ni11, rz_good (i := 1473) rfl rfl, nc11, by decide, plainFor_of_name np11, rfl, dk_X11_nth⟩
set_option maxRecDepth 100000 in
theorem mf_X11_grids : rz_mf mz_X11_grids := ⟨ni11, rz_good (i := 1477) rfl rfl, nc11, by decide, plainFor_of_name np11, rfl, dk_X11_grids⟩
set_option maxRecDepth 100000 in
theorem mf_X11_lacks : rz_mf mz_X11_lacks := ⟨ni11, rz_good (i := 1489) rfl rfl, nc11, by decide, plainFor_of_name np11, rfl, dk_X11_lacks⟩
set_option maxRecDepth 100000 in
theorem mf_X11_lackBoth : rz_mf mz_X11_lackBoth := ⟨ni11, rz_good (i := 1501) rfl rfl, nc11, by decide, plainFor_of_name np11, rfl, dk_X11_lackBoth⟩
set_option maxRecDepth 100000 in
theorem mf_X11_form : rz_mf mz_X11_form := ⟨ni11, rz_good (i := 1481) rfl rfl, nc11, by decide, plainFor_of_name np11, rfl, dk_X11_form⟩
set_option maxRecDepth 100000 in
theorem mf_X11_hasIt : rz_mf mz_X11_hasIt := ⟨ni11, rz_good (i := 1493) rfl rfl, nc11, by decide, plainFor_of_name np11, rfl, dk_X11_hasIt⟩
set_option maxRecDepth 100000 in
theorem mf_X11_has : rz_mf mz_X11_has := ⟨ni11, rz_good (i := 1485) rfl rfl, nc11, by decide, plainFor_of_name np11, rfl, dk_X11_has⟩
set_option maxRecDepth 100000 in
theorem mf_X11_isWithin : rz_mf mz_X11_isWithin := ⟨ni11, rz_good (i := 1509) rfl rfl, nc11, by decide, plainFor_of_name np11, rfl, dk_X11_isWithin⟩
set_option maxRecDepth 100000 in
theorem mf_X11_isSame : rz_mf mz_X11_isSame := ⟨ni11, rz_good (i := 1497) rfl rfl, nc11, by decide, plainFor_of_name np11, rfl, dk_X11_isSame⟩
set_option maxRecDepth 100000 in
theorem mf_X11_parts : rz_mf mz_X11_parts := ⟨ni11, rz_good (i := 1505) rfl rfl, nc11, by decide, plainFor_of_name np11, rfl, dk_X11_parts⟩
set_option maxRecDepth 100000 in
theorem mf_X11_lackAll : rz_mf mz_X11_lackAll := ⟨ni11, rz_good (i := 1517) rfl rfl, nc11, by decide, plainFor_of_name np11, rfl, dk_X11_lackAll⟩
set_option maxRecDepth 100000 in
theorem mf_X11_meet : rz_mf mz_X11_meet := ⟨ni11, rz_good (i := 1513) rfl rfl, nc11, by decide, plainFor_of_name np11, rfl, dk_X11_meet⟩
set_option maxRecDepth 100000 in
theorem mf_X11_join : rz_mf mz_X11_join := ⟨ni11, rz_good (i := 1522) rfl rfl, nc11, by decide, plainFor_of_name np11, rfl, dk_X11_join⟩
set_option maxRecDepth 100000 in
theorem mf_X11_undo : rz_mf mz_X11_undo := ⟨ni11, rz_good (i := 1526) rfl rfl, nc11, by decide, plainFor_of_name np11, rfl, dk_X11_undo⟩
set_option maxRecDepth 100000 in
theorem mf_X11_times : rz_mf mz_X11_times := ⟨ni11, rz_good (i := 1545) rfl rfl, nc11, by decide, plainFor_of_name np11, rfl, dk_X11_times⟩
set_option maxRecDepth 100000 in
theorem mf_X11_floor : rz_mf mz_X11_floor := ⟨ni11, rz_good (i := 1549) rfl rfl, nc11, by decide, plainFor_of_name np11, rfl, dk_X11_floor⟩
set_option maxRecDepth 100000 in
theorem mf_X11_shortOf : rz_mf mz_X11_shortOf := ⟨ni11, rz_good (i := 1542) rfl rfl, nc11, by decide, plainFor_of_name np11, rfl, dk_X11_shortOf⟩
set_option maxRecDepth 100000 in
theorem mf_X11_isTold : rz_mf mz_X11_isTold := ⟨ni11, rz_good (i := 1552) rfl rfl, nc11, by decide, plainFor_of_name np11, rfl, dk_X11_isTold⟩
set_option maxRecDepth 100000 in
theorem mf_X11_isAhead : rz_mf mz_X11_isAhead := ⟨ni11, rz_good (i := 1555) rfl rfl, nc11, by decide, plainFor_of_name np11, rfl, dk_X11_isAhead⟩
set_option maxRecDepth 100000 in
theorem mf_X11_stepsOf : rz_mf mz_X11_stepsOf := ⟨ni11, rz_good (i := 1538) rfl rfl, nc11, by decide, plainFor_of_name np11, rfl, dk_X11_stepsOf⟩
set_option maxRecDepth 100000 in
theorem mf_X11_lacksStep : rz_mf mz_X11_lacksStep := ⟨ni11, rz_good (i := 1534) rfl rfl, nc11, by decide, plainFor_of_name np11, rfl, dk_X11_lacksStep⟩
set_option maxRecDepth 100000 in
theorem mf_X11_stepX : rz_mf mz_X11_stepX := ⟨ni11, rz_good (i := 1530) rfl rfl, nc11, by decide, plainFor_of_name np11, rfl, dk_X11_stepX⟩
set_option maxRecDepth 100000 in
theorem mf_X11_stepY : rz_mf mz_X11_stepY := ⟨ni11, rz_good (i := 1559) rfl rfl, nc11, by decide, plainFor_of_name np11, rfl, dk_X11_stepY⟩
set_option maxRecDepth 100000 in
theorem mf_X11_second : rz_mf mz_X11_second := ⟨ni11, rz_good (i := 1563) rfl rfl, nc11, by decide, plainFor_of_name np11, rfl, dk_X11_second⟩
set_option maxRecDepth 100000 in
theorem mf_X11_steps : rz_mf mz_X11_steps := ⟨ni11, rz_good (i := 1567) rfl rfl, nc11, by decide, plainFor_of_name np11, rfl, dk_X11_steps⟩
set_option maxRecDepth 100000 in
theorem mf_X11_nearest : rz_mf mz_X11_nearest := ⟨ni11, rz_good (i := 1579) rfl rfl, nc11, by decide, plainFor_of_name np11, rfl, dk_X11_nearest⟩
set_option maxRecDepth 100000 in
theorem mf_X11_lacksNear : rz_mf mz_X11_lacksNear := ⟨ni11, rz_good (i := 1575) rfl rfl, nc11, by decide, plainFor_of_name np11, rfl, dk_X11_lacksNear⟩
set_option maxRecDepth 100000 in
theorem mf_X11_nearX : rz_mf mz_X11_nearX := ⟨ni11, rz_good (i := 1571) rfl rfl, nc11, by decide, plainFor_of_name np11, rfl, dk_X11_nearX⟩
set_option maxRecDepth 100000 in
theorem mf_X11_nearY : rz_mf mz_X11_nearY := ⟨ni11, rz_good (i := 1586) rfl rfl, nc11, by decide, plainFor_of_name np11, rfl, dk_X11_nearY⟩
set_option maxRecDepth 100000 in
theorem mf_X11_around : rz_mf mz_X11_around := ⟨ni11, rz_good (i := 1594) rfl rfl, nc11, by decide, plainFor_of_name np11, rfl, dk_X11_around⟩
set_option maxRecDepth 100000 in
theorem mf_X11_corners : rz_mf mz_X11_corners := ⟨ni11, rz_good (i := 1590) rfl rfl, nc11, by decide, plainFor_of_name np11, rfl, dk_X11_corners⟩
set_option maxRecDepth 100000 in
theorem mf_X11_cellOf : rz_mf mz_X11_cellOf := ⟨ni11, rz_good (i := 1602) rfl rfl, nc11, by decide, plainFor_of_name np11, rfl, dk_X11_cellOf⟩
set_option maxRecDepth 100000 in
theorem mf_X11_adds : rz_mf mz_X11_adds := ⟨ni11, rz_good (i := 1606) rfl rfl, nc11, by decide, plainFor_of_name np11, rfl, dk_X11_adds⟩
set_option maxRecDepth 100000 in
theorem mf_X11_addsNumber : rz_mf mz_X11_addsNumber := ⟨ni11, rz_good (i := 1610) rfl rfl, nc11, by decide, plainFor_of_name np11, rfl, dk_X11_addsNumber⟩
set_option maxRecDepth 100000 in
theorem mf_X11_tellCorner : rz_mf mz_X11_tellCorner := ⟨ni11, rz_good (i := 1598) rfl rfl, nc11, by decide, plainFor_of_name np11, rfl, dk_X11_tellCorner⟩
set_option maxRecDepth 100000 in
theorem mf_X11_signAt : rz_mf mz_X11_signAt := ⟨ni11, rz_good (i := 1617) rfl rfl, nc11, by decide, plainFor_of_name np11, rfl, dk_X11_signAt⟩
set_option maxRecDepth 100000 in
theorem mf_X11_fewestOf : rz_mf mz_X11_fewestOf := ⟨ni11, rz_good (i := 1625) rfl rfl, nc11, by decide, plainFor_of_name np11, rfl, dk_X11_fewestOf⟩
set_option maxRecDepth 100000 in
theorem mf_X11_coins : rz_mf mz_X11_coins := ⟨ni11, rz_good (i := 1621) rfl rfl, nc11, by decide, plainFor_of_name np11, rfl, dk_X11_coins⟩
set_option maxRecDepth 100000 in
theorem mf_X11_lacksUpTo : rz_mf mz_X11_lacksUpTo := ⟨ni11, rz_good (i := 1633) rfl rfl, nc11, by decide, plainFor_of_name np11, rfl, dk_X11_lacksUpTo⟩
set_option maxRecDepth 100000 in
theorem mf_X11_lacks_ : rz_mf mz_X11_lacks_ := ⟨ni11, rz_good (i := 1629) rfl rfl, nc11, by decide, plainFor_of_name np11, rfl, dk_X11_lacks_⟩
set_option maxRecDepth 100000 in
theorem mf_X11_lackAt : rz_mf mz_X11_lackAt := ⟨ni11, rz_good (i := 1637) rfl rfl, nc11, by decide, plainFor_of_name np11, rfl, dk_X11_lackAt⟩
set_option maxRecDepth 100000 in
theorem mf_X11_canMake : rz_mf mz_X11_canMake := ⟨ni11, rz_good (i := 1641) rfl rfl, nc11, by decide, plainFor_of_name np11, rfl, dk_X11_canMake⟩
set_option maxRecDepth 100000 in
theorem mf_X11_fewest : rz_mf mz_X11_fewest := ⟨ni11, rz_good (i := 1645) rfl rfl, nc11, by decide, plainFor_of_name np11, rfl, dk_X11_fewest⟩
set_option maxRecDepth 100000 in
theorem mf_X11_ways : rz_mf mz_X11_ways := ⟨ni11, rz_good (i := 1649) rfl rfl, nc11, by decide, plainFor_of_name np11, rfl, dk_X11_ways⟩
set_option maxRecDepth 100000 in
theorem mf_X11_corner : rz_mf mz_X11_corner := ⟨ni11, rz_good (i := 1653) rfl rfl, nc11, by decide, plainFor_of_name np11, rfl, dk_X11_corner⟩
set_option maxRecDepth 100000 in
theorem mf_X11_clear : rz_mf mz_X11_clear := ⟨ni11, rz_good (i := 1657) rfl rfl, nc11, by decide, plainFor_of_name np11, rfl, dk_X11_clear⟩
set_option maxRecDepth 100000 in
theorem mf_X11_after : rz_mf mz_X11_after := ⟨ni11, rz_good (i := 1669) rfl rfl, nc11, by decide, plainFor_of_name np11, rfl, dk_X11_after⟩
set_option maxRecDepth 100000 in
theorem mf_X11_turn : rz_mf mz_X11_turn := ⟨ni11, rz_good (i := 1673) rfl rfl, nc11, by decide, plainFor_of_name np11, rfl, dk_X11_turn⟩
set_option maxRecDepth 100000 in
theorem mf_X11_isOn : rz_mf mz_X11_isOn := ⟨ni11, rz_good (i := 1681) rfl rfl, nc11, by decide, plainFor_of_name np11, rfl, dk_X11_isOn⟩
set_option maxRecDepth 100000 in
theorem mf_X11_doMeet : rz_mf mz_X11_doMeet := ⟨ni11, rz_good (i := 1677) rfl rfl, nc11, by decide, plainFor_of_name np11, rfl, dk_X11_doMeet⟩
set_option maxRecDepth 100000 in
theorem mf_X11_isPolygon : rz_mf mz_X11_isPolygon := ⟨ni11, rz_good (i := 1665) rfl rfl, nc11, by decide, plainFor_of_name np11, rfl, dk_X11_isPolygon⟩
set_option maxRecDepth 100000 in
theorem mf_X11_areaTwice : rz_mf mz_X11_areaTwice := ⟨ni11, rz_good (i := 1685) rfl rfl, nc11, by decide, plainFor_of_name np11, rfl, dk_X11_areaTwice⟩
set_option maxRecDepth 100000 in
theorem mf_X11_close : rz_mf mz_X11_close := ⟨ni11, rz_good (i := 1661) rfl rfl, nc11, by decide, plainFor_of_name np11, rfl, dk_X11_close⟩
set_option maxRecDepth 100000 in
theorem mf_X11_rimIts : rz_mf mz_X11_rimIts := ⟨ni11, rz_good (i := 1694) rfl rfl, nc11, by decide, plainFor_of_name np11, rfl, dk_X11_rimIts⟩
set_option maxRecDepth 100000 in
theorem mf_X11_rim : rz_mf mz_X11_rim := ⟨ni11, rz_good (i := 1690) rfl rfl, nc11, by decide, plainFor_of_name np11, rfl, dk_X11_rim⟩
set_option maxRecDepth 100000 in
theorem mf_X11_isInside : rz_mf mz_X11_isInside := ⟨ni11, rz_good (i := 1708) rfl rfl, nc11, by decide, plainFor_of_name np11, rfl, dk_X11_isInside⟩
set_option maxRecDepth 100000 in
theorem mf_X11_whereIts : rz_mf mz_X11_whereIts := ⟨ni11, rz_good (i := 1702) rfl rfl, nc11, by decide, plainFor_of_name np11, rfl, dk_X11_whereIts⟩
set_option maxRecDepth 100000 in
theorem mf_X11_where : rz_mf mz_X11_where := ⟨ni11, rz_good (i := 1698) rfl rfl, nc11, by decide, plainFor_of_name np11, rfl, dk_X11_where⟩
set_option maxRecDepth 100000 in
theorem mf_X11_within : rz_mf mz_X11_within := ⟨ni11, rz_good (i := 1712) rfl rfl, nc11, by decide, plainFor_of_name np11, rfl, dk_X11_within⟩
set_option maxRecDepth 100000 in
theorem mf_X11_isConvex : rz_mf mz_X11_isConvex := ⟨ni11, rz_good (i := 1716) rfl rfl, nc11, by decide, plainFor_of_name np11, rfl, dk_X11_isConvex⟩
set_option maxRecDepth 100000 in
theorem mf_X11_grown : rz_mf mz_X11_grown := ⟨ni11, rz_good (i := 1720) rfl rfl, nc11, by decide, plainFor_of_name np11, rfl, dk_X11_grown⟩
set_option maxRecDepth 100000 in
theorem mf_X11_isEar : rz_mf mz_X11_isEar := ⟨ni11, rz_good (i := 1730) rfl rfl, nc11, by decide, plainFor_of_name np11, rfl, dk_X11_isEar⟩
set_option maxRecDepth 100000 in
theorem mf_X11_triangleAt : rz_mf mz_X11_triangleAt := ⟨ni11, rz_good (i := 1726) rfl rfl, nc11, by decide, plainFor_of_name np11, rfl, dk_X11_triangleAt⟩
set_option maxRecDepth 100000 in
theorem mf_X11_tiles : rz_mf mz_X11_tiles := ⟨ni11, rz_good (i := 1734) rfl rfl, nc11, by decide, plainFor_of_name np11, rfl, dk_X11_tiles⟩
set_option maxRecDepth 100000 in
theorem mf_X11_seenOf : rz_mf mz_X11_seenOf := ⟨ni11, rz_good (i := 1741) rfl rfl, nc11, by decide, plainFor_of_name np11, rfl, dk_X11_seenOf⟩
set_option maxRecDepth 100000 in
theorem mf_X11_manyOf : rz_mf mz_X11_manyOf := ⟨ni11, rz_good (i := 1744) rfl rfl, nc11, by decide, plainFor_of_name np11, rfl, dk_X11_manyOf⟩
set_option maxRecDepth 100000 in
theorem mf_X11_seen : rz_mf mz_X11_seen := ⟨ni11, rz_good (i := 1738) rfl rfl, nc11, by decide, plainFor_of_name np11, rfl, dk_X11_seen⟩
set_option maxRecDepth 100000 in
theorem mf_X11_seenAt : rz_mf mz_X11_seenAt := ⟨ni11, rz_good (i := 1748) rfl rfl, nc11, by decide, plainFor_of_name np11, rfl, dk_X11_seenAt⟩
set_option maxRecDepth 100000 in
theorem mf_X11_leaps : rz_mf mz_X11_leaps := ⟨ni11, rz_good (i := 1752) rfl rfl, nc11, by decide, plainFor_of_name np11, rfl, dk_X11_leaps⟩
set_option maxRecDepth 100000 in
theorem mf_X11_areRight : rz_mf mz_X11_areRight := ⟨ni11, rz_good (i := 1759) rfl rfl, nc11, by decide, plainFor_of_name np11, rfl, dk_X11_areRight⟩
set_option maxRecDepth 100000 in
theorem mf_X11_termsOf : rz_mf mz_X11_termsOf := ⟨ni11, rz_good (i := 1762) rfl rfl, nc11, by decide, plainFor_of_name np11, rfl, dk_X11_termsOf⟩
set_option maxRecDepth 100000 in
theorem mf_X11_manyTerms : rz_mf mz_X11_manyTerms := ⟨ni11, rz_good (i := 1765) rfl rfl, nc11, by decide, plainFor_of_name np11, rfl, dk_X11_manyTerms⟩
set_option maxRecDepth 100000 in
theorem mf_X11_terms : rz_mf mz_X11_terms := ⟨ni11, rz_good (i := 1756) rfl rfl, nc11, by decide, plainFor_of_name np11, rfl, dk_X11_terms⟩
set_option maxRecDepth 100000 in
theorem mf_X11_termAt : rz_mf mz_X11_termAt := ⟨ni11, rz_good (i := 1769) rfl rfl, nc11, by decide, plainFor_of_name np11, rfl, dk_X11_termAt⟩
set_option maxRecDepth 100000 in
theorem mf_X11_lowest : rz_mf mz_X11_lowest := ⟨ni11, rz_good (i := 1779) rfl rfl, nc11, by decide, plainFor_of_name np11, rfl, dk_X11_lowest⟩
set_option maxRecDepth 100000 in
theorem mf_X11_hullOf : rz_mf mz_X11_hullOf := ⟨ni11, rz_good (i := 1776) rfl rfl, nc11, by decide, plainFor_of_name np11, rfl, dk_X11_hullOf⟩
set_option maxRecDepth 100000 in
theorem mf_X11_manyHull : rz_mf mz_X11_manyHull := ⟨ni11, rz_good (i := 1782) rfl rfl, nc11, by decide, plainFor_of_name np11, rfl, dk_X11_manyHull⟩
set_option maxRecDepth 100000 in
theorem mf_X11_hull : rz_mf mz_X11_hull := ⟨ni11, rz_good (i := 1773) rfl rfl, nc11, by decide, plainFor_of_name np11, rfl, dk_X11_hull⟩
set_option maxRecDepth 100000 in
theorem mf_X11_hullAt : rz_mf mz_X11_hullAt := ⟨ni11, rz_good (i := 1786) rfl rfl, nc11, by decide, plainFor_of_name np11, rfl, dk_X11_hullAt⟩
set_option maxRecDepth 100000 in
theorem mf_X11_held : rz_mf mz_X11_held := ⟨ni11, rz_good (i := 1790) rfl rfl, nc11, by decide, plainFor_of_name np11, rfl, dk_X11_held⟩
set_option maxRecDepth 100000 in
theorem mf_X11_checksum : rz_mf mz_X11_checksum := ⟨ni11, rz_good (i := 1794) rfl rfl, nc11, by decide, plainFor_of_name np11, rfl, dk_X11_checksum⟩
set_option maxRecDepth 100000 in
theorem mf_X11_isSound : rz_mf mz_X11_isSound := ⟨ni11, rz_good (i := 1800) rfl rfl, nc11, by decide, plainFor_of_name np11, rfl, dk_X11_isSound⟩
set_option maxRecDepth 100000 in
theorem mf_J9_floorDiv_7cf53 : rz_mf mz_J9_floorDiv_7cf53 := ⟨ni13, rz_good (i := 1274) rfl rfl, nc13, by decide, (by decide +kernel), rfl, dk_J9_floorDiv_7cf53⟩
set_option maxRecDepth 100000 in
theorem mf_J9_floorDiv_f86c9 : rz_mf mz_J9_floorDiv_f86c9 := ⟨ni13, rz_good (i := 423) rfl rfl, nc13, by decide, (by decide +kernel), rfl, dk_J9_floorDiv_f86c9⟩
set_option maxRecDepth 100000 in
theorem mf_J9_floorMod_7cf53 : rz_mf mz_J9_floorMod_7cf53 := ⟨ni13, rz_good (i := 907) rfl rfl, nc13, by decide, (by decide +kernel), rfl, dk_J9_floorMod_7cf53⟩
set_option maxRecDepth 100000 in
theorem mf_J9_floorMod_f86c9 : rz_mf mz_J9_floorMod_f86c9 := ⟨ni13, rz_good (i := 480) rfl rfl, nc13, by decide, (by decide +kernel), rfl, dk_J9_floorMod_f86c9⟩
set_option maxRecDepth 100000 in
theorem mf_J9_abs_0f7a4 : rz_mf mz_J9_abs_0f7a4 := ⟨ni13, rz_good (i := 569) rfl rfl, nc13, by decide, (by decide +kernel), rfl, dk_J9_abs_0f7a4⟩
set_option maxRecDepth 100000 in
theorem mf_J9_abs_067f4 : rz_mf mz_J9_abs_067f4 := ⟨ni13, rz_good (i := 458) rfl rfl, nc13, by decide, (by decide +kernel), rfl, dk_J9_abs_067f4⟩
set_option maxRecDepth 100000 in
theorem mf_J9_max_7cf53 : rz_mf mz_J9_max_7cf53 := ⟨ni13, rz_good (i := 540) rfl rfl, nc13, by decide, (by decide +kernel), rfl, dk_J9_max_7cf53⟩
set_option maxRecDepth 100000 in
theorem mf_J9_max_f86c9 : rz_mf mz_J9_max_f86c9 := ⟨ni13, rz_good (i := 554) rfl rfl, nc13, by decide, (by decide +kernel), rfl, dk_J9_max_f86c9⟩
set_option maxRecDepth 100000 in
theorem mf_J9_min_7cf53 : rz_mf mz_J9_min_7cf53 := ⟨ni13, rz_good (i := 533) rfl rfl, nc13, by decide, (by decide +kernel), rfl, dk_J9_min_7cf53⟩
set_option maxRecDepth 100000 in
theorem mf_J9_min_f86c9 : rz_mf mz_J9_min_f86c9 := ⟨ni13, rz_good (i := 551) rfl rfl, nc13, by decide, (by decide +kernel), rfl, dk_J9_min_f86c9⟩
set_option maxRecDepth 100000 in
theorem mf_J7_fill_53178 : rz_mf mz_J7_fill_53178 := ⟨ni14, rz_good (i := 1035) rfl rfl, nc14, by decide, plainFor_of_name np14, rfl, dk_J7_fill_53178⟩
set_option maxRecDepth 100000 in
theorem mf_L_spanned : rz_mf mz_L_spanned := ⟨ni12, rz_good (i := 630) rfl rfl, nc12, by decide, plainFor_of_name np12, rfl, dk_L_spanned⟩
set_option maxRecDepth 100000 in
theorem mf_L_remainder : rz_mf mz_L_remainder := ⟨ni12, rz_good (i := 757) rfl rfl, nc12, by decide, plainFor_of_name np12, rfl, dk_L_remainder⟩
set_option maxRecDepth 100000 in
theorem mf_L_nth : rz_mf mz_L_nth := ⟨ni12, rz_good (i := 767) rfl rfl, nc12, by decide, plainFor_of_name np12, rfl, dk_L_nth⟩
set_option maxRecDepth 100000 in
theorem mf_L_grids : rz_mf mz_L_grids := ⟨ni12, rz_good (i := 794) rfl rfl, nc12, by decide, plainFor_of_name np12, rfl, dk_L_grids⟩
set_option maxRecDepth 100000 in
theorem mf_L_form : rz_mf mz_L_form := ⟨ni12, rz_good (i := 801) rfl rfl, nc12, by decide, plainFor_of_name np12, rfl, dk_L_form⟩
set_option maxRecDepth 100000 in
theorem mf_L_has : rz_mf mz_L_has := ⟨ni12, rz_good (i := 814) rfl rfl, nc12, by decide, plainFor_of_name np12, rfl, dk_L_has⟩
set_option maxRecDepth 100000 in
theorem mf_L_isSame : rz_mf mz_L_isSame := ⟨ni12, rz_good (i := 821) rfl rfl, nc12, by decide, plainFor_of_name np12, rfl, dk_L_isSame⟩
set_option maxRecDepth 100000 in
theorem mf_L_parts : rz_mf mz_L_parts := ⟨ni12, rz_good (i := 828) rfl rfl, nc12, by decide, plainFor_of_name np12, rfl, dk_L_parts⟩
set_option maxRecDepth 100000 in
theorem mf_L_meet : rz_mf mz_L_meet := ⟨ni12, rz_good (i := 836) rfl rfl, nc12, by decide, plainFor_of_name np12, rfl, dk_L_meet⟩
set_option maxRecDepth 100000 in
theorem mf_L_join : rz_mf mz_L_join := ⟨ni12, rz_good (i := 860) rfl rfl, nc12, by decide, plainFor_of_name np12, rfl, dk_L_join⟩
set_option maxRecDepth 100000 in
theorem mf_L_undo : rz_mf mz_L_undo := ⟨ni12, rz_good (i := 867) rfl rfl, nc12, by decide, plainFor_of_name np12, rfl, dk_L_undo⟩
set_option maxRecDepth 100000 in
theorem mf_L_stepX : rz_mf mz_L_stepX := ⟨ni12, rz_good (i := 875) rfl rfl, nc12, by decide, plainFor_of_name np12, rfl, dk_L_stepX⟩
set_option maxRecDepth 100000 in
theorem mf_L_stepY : rz_mf mz_L_stepY := ⟨ni12, rz_good (i := 882) rfl rfl, nc12, by decide, plainFor_of_name np12, rfl, dk_L_stepY⟩
set_option maxRecDepth 100000 in
theorem mf_L_second : rz_mf mz_L_second := ⟨ni12, rz_good (i := 889) rfl rfl, nc12, by decide, plainFor_of_name np12, rfl, dk_L_second⟩
set_option maxRecDepth 100000 in
theorem mf_L_steps : rz_mf mz_L_steps := ⟨ni12, rz_good (i := 896) rfl rfl, nc12, by decide, plainFor_of_name np12, rfl, dk_L_steps⟩
set_option maxRecDepth 100000 in
theorem mf_L_nearX : rz_mf mz_L_nearX := ⟨ni12, rz_good (i := 910) rfl rfl, nc12, by decide, plainFor_of_name np12, rfl, dk_L_nearX⟩
set_option maxRecDepth 100000 in
theorem mf_L_nearY : rz_mf mz_L_nearY := ⟨ni12, rz_good (i := 930) rfl rfl, nc12, by decide, plainFor_of_name np12, rfl, dk_L_nearY⟩
set_option maxRecDepth 100000 in
theorem mf_L_corners : rz_mf mz_L_corners := ⟨ni12, rz_good (i := 937) rfl rfl, nc12, by decide, plainFor_of_name np12, rfl, dk_L_corners⟩
set_option maxRecDepth 100000 in
theorem mf_L_tellCorner : rz_mf mz_L_tellCorner := ⟨ni12, rz_good (i := 963) rfl rfl, nc12, by decide, plainFor_of_name np12, rfl, dk_L_tellCorner⟩
set_option maxRecDepth 100000 in
theorem mf_L_signAt : rz_mf mz_L_signAt := ⟨ni12, rz_good (i := 1004) rfl rfl, nc12, by decide, plainFor_of_name np12, rfl, dk_L_signAt⟩
set_option maxRecDepth 100000 in
theorem mf_L_coins : rz_mf mz_L_coins := ⟨ni12, rz_good (i := 1016) rfl rfl, nc12, by decide, plainFor_of_name np12, rfl, dk_L_coins⟩
set_option maxRecDepth 100000 in
theorem mf_L_lacks : rz_mf mz_L_lacks := ⟨ni12, rz_good (i := 1046) rfl rfl, nc12, by decide, plainFor_of_name np12, rfl, dk_L_lacks⟩
set_option maxRecDepth 100000 in
theorem mf_L_lackAt : rz_mf mz_L_lackAt := ⟨ni12, rz_good (i := 1058) rfl rfl, nc12, by decide, plainFor_of_name np12, rfl, dk_L_lackAt⟩
set_option maxRecDepth 100000 in
theorem mf_L_canMake : rz_mf mz_L_canMake := ⟨ni12, rz_good (i := 1070) rfl rfl, nc12, by decide, plainFor_of_name np12, rfl, dk_L_canMake⟩
set_option maxRecDepth 100000 in
theorem mf_L_fewest : rz_mf mz_L_fewest := ⟨ni12, rz_good (i := 1078) rfl rfl, nc12, by decide, plainFor_of_name np12, rfl, dk_L_fewest⟩
set_option maxRecDepth 100000 in
theorem mf_L_ways : rz_mf mz_L_ways := ⟨ni12, rz_good (i := 1086) rfl rfl, nc12, by decide, plainFor_of_name np12, rfl, dk_L_ways⟩
set_option maxRecDepth 100000 in
theorem mf_L_corner : rz_mf mz_L_corner := ⟨ni12, rz_good (i := 1101) rfl rfl, nc12, by decide, plainFor_of_name np12, rfl, dk_L_corner⟩
set_option maxRecDepth 100000 in
theorem mf_L_close : rz_mf mz_L_close := ⟨ni12, rz_good (i := 1113) rfl rfl, nc12, by decide, plainFor_of_name np12, rfl, dk_L_close⟩
set_option maxRecDepth 100000 in
theorem mf_L_rim : rz_mf mz_L_rim := ⟨ni12, rz_good (i := 1179) rfl rfl, nc12, by decide, plainFor_of_name np12, rfl, dk_L_rim⟩
set_option maxRecDepth 100000 in
theorem mf_L_within : rz_mf mz_L_within := ⟨ni12, rz_good (i := 1192) rfl rfl, nc12, by decide, plainFor_of_name np12, rfl, dk_L_within⟩
set_option maxRecDepth 100000 in
theorem mf_L_where : rz_mf mz_L_where := ⟨ni12, rz_good (i := 1199) rfl rfl, nc12, by decide, plainFor_of_name np12, rfl, dk_L_where⟩
set_option maxRecDepth 100000 in
theorem mf_L_isConvex : rz_mf mz_L_isConvex := ⟨ni12, rz_good (i := 1210) rfl rfl, nc12, by decide, plainFor_of_name np12, rfl, dk_L_isConvex⟩
set_option maxRecDepth 100000 in
theorem mf_L_grown : rz_mf mz_L_grown := ⟨ni12, rz_good (i := 1221) rfl rfl, nc12, by decide, plainFor_of_name np12, rfl, dk_L_grown⟩
set_option maxRecDepth 100000 in
theorem mf_L_triangleAt : rz_mf mz_L_triangleAt := ⟨ni12, rz_good (i := 1236) rfl rfl, nc12, by decide, plainFor_of_name np12, rfl, dk_L_triangleAt⟩
set_option maxRecDepth 100000 in
theorem mf_L_tiles : rz_mf mz_L_tiles := ⟨ni12, rz_good (i := 1248) rfl rfl, nc12, by decide, plainFor_of_name np12, rfl, dk_L_tiles⟩
set_option maxRecDepth 100000 in
theorem mf_L_seen : rz_mf mz_L_seen := ⟨ni12, rz_good (i := 1281) rfl rfl, nc12, by decide, plainFor_of_name np12, rfl, dk_L_seen⟩
set_option maxRecDepth 100000 in
theorem mf_L_seenAt : rz_mf mz_L_seenAt := ⟨ni12, rz_good (i := 1288) rfl rfl, nc12, by decide, plainFor_of_name np12, rfl, dk_L_seenAt⟩
set_option maxRecDepth 100000 in
theorem mf_L_leaps : rz_mf mz_L_leaps := ⟨ni12, rz_good (i := 1296) rfl rfl, nc12, by decide, plainFor_of_name np12, rfl, dk_L_leaps⟩
set_option maxRecDepth 100000 in
theorem mf_L_terms : rz_mf mz_L_terms := ⟨ni12, rz_good (i := 1325) rfl rfl, nc12, by decide, plainFor_of_name np12, rfl, dk_L_terms⟩
set_option maxRecDepth 100000 in
theorem mf_L_termAt : rz_mf mz_L_termAt := ⟨ni12, rz_good (i := 1338) rfl rfl, nc12, by decide, plainFor_of_name np12, rfl, dk_L_termAt⟩
set_option maxRecDepth 100000 in
theorem mf_L_hull : rz_mf mz_L_hull := ⟨ni12, rz_good (i := 1349) rfl rfl, nc12, by decide, plainFor_of_name np12, rfl, dk_L_hull⟩
set_option maxRecDepth 100000 in
theorem mf_L_hullAt : rz_mf mz_L_hullAt := ⟨ni12, rz_good (i := 1356) rfl rfl, nc12, by decide, plainFor_of_name np12, rfl, dk_L_hullAt⟩
def rz_ms_0 : List rz_M := [mz_X0_init, mz_X0_reduce, mz_X0_swap, mz_X0_product, mz_X0_turn, mz_X0_seek, mz_X0_compare, mz_X1_init, mz_X1_draw, mz_X1_put, mz_X1_findFirst, mz_X1_overX, mz_X1_overY, mz_X1_placeOfCorner, mz_X2_init, mz_X2_cutAll, mz_X2_cutFirst, mz_X2_leftAt, mz_X2_remove, mz_X2_keep, mz_X2_isEar, mz_X2_cornerOf, mz_X3_init, mz_X3_generated, mz_X3_ofMultiples, mz_X3_ranked, mz_X3_joinOf, mz_X3_meetWidth, mz_X3_meetHeight, mz_X3_meetIndex, mz_X3_meetOf, mz_X3_index, mz_X3_contains, mz_X3_isPartOf, mz_X3_countUpTo, mz_X3_classOf, mz_X4_init, mz_X4_build, mz_X4_lowest, mz_X4_add]
set_option maxRecDepth 100000 in
theorem mfa_0 : ∀ M ∈ rz_ms_0, rz_mf M := List.forall_mem_cons.mpr ⟨mf_X0_init, List.forall_mem_cons.mpr ⟨mf_X0_reduce, List.forall_mem_cons.mpr ⟨mf_X0_swap, List.forall_mem_cons.mpr ⟨mf_X0_product, List.forall_mem_cons.mpr ⟨mf_X0_turn, List.forall_mem_cons.mpr ⟨mf_X0_seek, List.forall_mem_cons.mpr ⟨mf_X0_compare, List.forall_mem_cons.mpr ⟨mf_X1_init, List.forall_mem_cons.mpr ⟨mf_X1_draw, List.forall_mem_cons.mpr ⟨mf_X1_put, List.forall_mem_cons.mpr ⟨mf_X1_findFirst, List.forall_mem_cons.mpr ⟨mf_X1_overX, List.forall_mem_cons.mpr ⟨mf_X1_overY, List.forall_mem_cons.mpr ⟨mf_X1_placeOfCorner, List.forall_mem_cons.mpr ⟨mf_X2_init, List.forall_mem_cons.mpr ⟨mf_X2_cutAll, List.forall_mem_cons.mpr ⟨mf_X2_cutFirst, List.forall_mem_cons.mpr ⟨mf_X2_leftAt, List.forall_mem_cons.mpr ⟨mf_X2_remove, List.forall_mem_cons.mpr ⟨mf_X2_keep, List.forall_mem_cons.mpr ⟨mf_X2_isEar, List.forall_mem_cons.mpr ⟨mf_X2_cornerOf, List.forall_mem_cons.mpr ⟨mf_X3_init, List.forall_mem_cons.mpr ⟨mf_X3_generated, List.forall_mem_cons.mpr ⟨mf_X3_ofMultiples, List.forall_mem_cons.mpr ⟨mf_X3_ranked, List.forall_mem_cons.mpr ⟨mf_X3_joinOf, List.forall_mem_cons.mpr ⟨mf_X3_meetWidth, List.forall_mem_cons.mpr ⟨mf_X3_meetHeight, List.forall_mem_cons.mpr ⟨mf_X3_meetIndex, List.forall_mem_cons.mpr ⟨mf_X3_meetOf, List.forall_mem_cons.mpr ⟨mf_X3_index, List.forall_mem_cons.mpr ⟨mf_X3_contains, List.forall_mem_cons.mpr ⟨mf_X3_isPartOf, List.forall_mem_cons.mpr ⟨mf_X3_countUpTo, List.forall_mem_cons.mpr ⟨mf_X3_classOf, List.forall_mem_cons.mpr ⟨mf_X4_init, List.forall_mem_cons.mpr ⟨mf_X4_build, List.forall_mem_cons.mpr ⟨mf_X4_lowest, List.forall_mem_cons.mpr ⟨mf_X4_add, fun _ h => absurd h List.not_mem_nil⟩⟩⟩⟩⟩⟩⟩⟩⟩⟩⟩⟩⟩⟩⟩⟩⟩⟩⟩⟩⟩⟩⟩⟩⟩⟩⟩⟩⟩⟩⟩⟩⟩⟩⟩⟩⟩⟩⟩⟩
def rz_ms_1 : List rz_M := [mz_X4_xOf, mz_X4_yOf, mz_X4_turn, mz_X4_bendsUp, mz_X4_liesBelowAll, mz_X5_init, mz_X5_countTo, mz_X5_leapFrom, mz_X5_comeTo, mz_X5_placeOfPoint, mz_X6_init, mz_X6_type, mz_X6_takeAway, mz_X6_shut, mz_X6_xOf, mz_X6_yOf, mz_X6_after, mz_X6_turn, mz_X6_signedArea, mz_X6_twiceArea, mz_X6_rimPoints, mz_X6_isProper, mz_X6_foldsBack, mz_X6_sidesMeet, mz_X6_isOn, mz_X6_crosses, mz_X6_placeOf, mz_X6_findSidesAt, mz_X6_placeInRow, mz_X6_turnsOneWay, mz_X6_isUpright, mz_X6_fillsBy, mz_X6_isMarked, mz_X6_hasSquare, mz_X6_least, mz_X6_greatest, mz_X6_countsAgree, mz_X6_addTo, mz_X7_init, mz_X7_areValues]
set_option maxRecDepth 100000 in
theorem mfa_1 : ∀ M ∈ rz_ms_1, rz_mf M := List.forall_mem_cons.mpr ⟨mf_X4_xOf, List.forall_mem_cons.mpr ⟨mf_X4_yOf, List.forall_mem_cons.mpr ⟨mf_X4_turn, List.forall_mem_cons.mpr ⟨mf_X4_bendsUp, List.forall_mem_cons.mpr ⟨mf_X4_liesBelowAll, List.forall_mem_cons.mpr ⟨mf_X5_init, List.forall_mem_cons.mpr ⟨mf_X5_countTo, List.forall_mem_cons.mpr ⟨mf_X5_leapFrom, List.forall_mem_cons.mpr ⟨mf_X5_comeTo, List.forall_mem_cons.mpr ⟨mf_X5_placeOfPoint, List.forall_mem_cons.mpr ⟨mf_X6_init, List.forall_mem_cons.mpr ⟨mf_X6_type, List.forall_mem_cons.mpr ⟨mf_X6_takeAway, List.forall_mem_cons.mpr ⟨mf_X6_shut, List.forall_mem_cons.mpr ⟨mf_X6_xOf, List.forall_mem_cons.mpr ⟨mf_X6_yOf, List.forall_mem_cons.mpr ⟨mf_X6_after, List.forall_mem_cons.mpr ⟨mf_X6_turn, List.forall_mem_cons.mpr ⟨mf_X6_signedArea, List.forall_mem_cons.mpr ⟨mf_X6_twiceArea, List.forall_mem_cons.mpr ⟨mf_X6_rimPoints, List.forall_mem_cons.mpr ⟨mf_X6_isProper, List.forall_mem_cons.mpr ⟨mf_X6_foldsBack, List.forall_mem_cons.mpr ⟨mf_X6_sidesMeet, List.forall_mem_cons.mpr ⟨mf_X6_isOn, List.forall_mem_cons.mpr ⟨mf_X6_crosses, List.forall_mem_cons.mpr ⟨mf_X6_placeOf, List.forall_mem_cons.mpr ⟨mf_X6_findSidesAt, List.forall_mem_cons.mpr ⟨mf_X6_placeInRow, List.forall_mem_cons.mpr ⟨mf_X6_turnsOneWay, List.forall_mem_cons.mpr ⟨mf_X6_isUpright, List.forall_mem_cons.mpr ⟨mf_X6_fillsBy, List.forall_mem_cons.mpr ⟨mf_X6_isMarked, List.forall_mem_cons.mpr ⟨mf_X6_hasSquare, List.forall_mem_cons.mpr ⟨mf_X6_least, List.forall_mem_cons.mpr ⟨mf_X6_greatest, List.forall_mem_cons.mpr ⟨mf_X6_countsAgree, List.forall_mem_cons.mpr ⟨mf_X6_addTo, List.forall_mem_cons.mpr ⟨mf_X7_init, List.forall_mem_cons.mpr ⟨mf_X7_areValues, fun _ h => absurd h List.not_mem_nil⟩⟩⟩⟩⟩⟩⟩⟩⟩⟩⟩⟩⟩⟩⟩⟩⟩⟩⟩⟩⟩⟩⟩⟩⟩⟩⟩⟩⟩⟩⟩⟩⟩⟩⟩⟩⟩⟩⟩⟩
def rz_ms_2 : List rz_M := [mz_X7_isValue, mz_X7_take, mz_X7_addKind, mz_X7_countLacks, mz_X7_lackOf, mz_X7_leastCoins, mz_X7_wayCount, mz_X7_addTo, mz_X7_lacksAreHalf, mz_X8_init, mz_X8_fill, mz_X8_add, mz_X8_isAhead, mz_X8_xOf, mz_X8_yOf, mz_X8_firstAside, mz_X9_init, mz_X9_sign, mz_X9_becomeNumber, mz_X9_becomeFraction, mz_X9_becomeProductAndOne, mz_X9_putNumber, mz_X9_putDigits, mz_X9_putSign, mz_X9_addTo, mz_X10_init, mz_X10_spanned, mz_X10_remainder, mz_X10_nth, mz_X10_grids, mz_X10_form, mz_X10_has, mz_X10_isSame, mz_X10_parts, mz_X10_meet, mz_X10_join, mz_X10_undo, mz_X10_stepX, mz_X10_stepY, mz_X10_second]
set_option maxRecDepth 100000 in
theorem mfa_2 : ∀ M ∈ rz_ms_2, rz_mf M := List.forall_mem_cons.mpr ⟨mf_X7_isValue, List.forall_mem_cons.mpr ⟨mf_X7_take, List.forall_mem_cons.mpr ⟨mf_X7_addKind, List.forall_mem_cons.mpr ⟨mf_X7_countLacks, List.forall_mem_cons.mpr ⟨mf_X7_lackOf, List.forall_mem_cons.mpr ⟨mf_X7_leastCoins, List.forall_mem_cons.mpr ⟨mf_X7_wayCount, List.forall_mem_cons.mpr ⟨mf_X7_addTo, List.forall_mem_cons.mpr ⟨mf_X7_lacksAreHalf, List.forall_mem_cons.mpr ⟨mf_X8_init, List.forall_mem_cons.mpr ⟨mf_X8_fill, List.forall_mem_cons.mpr ⟨mf_X8_add, List.forall_mem_cons.mpr ⟨mf_X8_isAhead, List.forall_mem_cons.mpr ⟨mf_X8_xOf, List.forall_mem_cons.mpr ⟨mf_X8_yOf, List.forall_mem_cons.mpr ⟨mf_X8_firstAside, List.forall_mem_cons.mpr ⟨mf_X9_init, List.forall_mem_cons.mpr ⟨mf_X9_sign, List.forall_mem_cons.mpr ⟨mf_X9_becomeNumber, List.forall_mem_cons.mpr ⟨mf_X9_becomeFraction, List.forall_mem_cons.mpr ⟨mf_X9_becomeProductAndOne, List.forall_mem_cons.mpr ⟨mf_X9_putNumber, List.forall_mem_cons.mpr ⟨mf_X9_putDigits, List.forall_mem_cons.mpr ⟨mf_X9_putSign, List.forall_mem_cons.mpr ⟨mf_X9_addTo, List.forall_mem_cons.mpr ⟨mf_X10_init, List.forall_mem_cons.mpr ⟨mf_X10_spanned, List.forall_mem_cons.mpr ⟨mf_X10_remainder, List.forall_mem_cons.mpr ⟨mf_X10_nth, List.forall_mem_cons.mpr ⟨mf_X10_grids, List.forall_mem_cons.mpr ⟨mf_X10_form, List.forall_mem_cons.mpr ⟨mf_X10_has, List.forall_mem_cons.mpr ⟨mf_X10_isSame, List.forall_mem_cons.mpr ⟨mf_X10_parts, List.forall_mem_cons.mpr ⟨mf_X10_meet, List.forall_mem_cons.mpr ⟨mf_X10_join, List.forall_mem_cons.mpr ⟨mf_X10_undo, List.forall_mem_cons.mpr ⟨mf_X10_stepX, List.forall_mem_cons.mpr ⟨mf_X10_stepY, List.forall_mem_cons.mpr ⟨mf_X10_second, fun _ h => absurd h List.not_mem_nil⟩⟩⟩⟩⟩⟩⟩⟩⟩⟩⟩⟩⟩⟩⟩⟩⟩⟩⟩⟩⟩⟩⟩⟩⟩⟩⟩⟩⟩⟩⟩⟩⟩⟩⟩⟩⟩⟩⟩⟩
def rz_ms_3 : List rz_M := [mz_X10_steps, mz_X10_nearX, mz_X10_nearY, mz_X10_corners, mz_X10_tellCorner, mz_X10_signAt, mz_X10_coins, mz_X10_lacks, mz_X10_lackAt, mz_X10_canMake, mz_X10_fewest, mz_X10_ways, mz_X10_corner, mz_X10_clear, mz_X10_close, mz_X10_rim, mz_X10_within, mz_X10_where, mz_X10_isConvex, mz_X10_grown, mz_X10_triangleAt, mz_X10_tiles, mz_X10_seen, mz_X10_seenAt, mz_X10_leaps, mz_X10_terms, mz_X10_termAt, mz_X10_hull, mz_X10_hullAt, mz_X10_held, mz_X10_checksum, mz_X10_isSound, mz_X10_checkSlot, mz_X10_checkRange, mz_X10_checkFraction, mz_X10_checkCoins, mz_X10_checkClosed, mz_X10_gridIn, mz_X10_become, mz_X10_forgetOldest]
set_option maxRecDepth 100000 in
theorem mfa_3 : ∀ M ∈ rz_ms_3, rz_mf M := List.forall_mem_cons.mpr ⟨mf_X10_steps, List.forall_mem_cons.mpr ⟨mf_X10_nearX, List.forall_mem_cons.mpr ⟨mf_X10_nearY, List.forall_mem_cons.mpr ⟨mf_X10_corners, List.forall_mem_cons.mpr ⟨mf_X10_tellCorner, List.forall_mem_cons.mpr ⟨mf_X10_signAt, List.forall_mem_cons.mpr ⟨mf_X10_coins, List.forall_mem_cons.mpr ⟨mf_X10_lacks, List.forall_mem_cons.mpr ⟨mf_X10_lackAt, List.forall_mem_cons.mpr ⟨mf_X10_canMake, List.forall_mem_cons.mpr ⟨mf_X10_fewest, List.forall_mem_cons.mpr ⟨mf_X10_ways, List.forall_mem_cons.mpr ⟨mf_X10_corner, List.forall_mem_cons.mpr ⟨mf_X10_clear, List.forall_mem_cons.mpr ⟨mf_X10_close, List.forall_mem_cons.mpr ⟨mf_X10_rim, List.forall_mem_cons.mpr ⟨mf_X10_within, List.forall_mem_cons.mpr ⟨mf_X10_where, List.forall_mem_cons.mpr ⟨mf_X10_isConvex, List.forall_mem_cons.mpr ⟨mf_X10_grown, List.forall_mem_cons.mpr ⟨mf_X10_triangleAt, List.forall_mem_cons.mpr ⟨mf_X10_tiles, List.forall_mem_cons.mpr ⟨mf_X10_seen, List.forall_mem_cons.mpr ⟨mf_X10_seenAt, List.forall_mem_cons.mpr ⟨mf_X10_leaps, List.forall_mem_cons.mpr ⟨mf_X10_terms, List.forall_mem_cons.mpr ⟨mf_X10_termAt, List.forall_mem_cons.mpr ⟨mf_X10_hull, List.forall_mem_cons.mpr ⟨mf_X10_hullAt, List.forall_mem_cons.mpr ⟨mf_X10_held, List.forall_mem_cons.mpr ⟨mf_X10_checksum, List.forall_mem_cons.mpr ⟨mf_X10_isSound, List.forall_mem_cons.mpr ⟨mf_X10_checkSlot, List.forall_mem_cons.mpr ⟨mf_X10_checkRange, List.forall_mem_cons.mpr ⟨mf_X10_checkFraction, List.forall_mem_cons.mpr ⟨mf_X10_checkCoins, List.forall_mem_cons.mpr ⟨mf_X10_checkClosed, List.forall_mem_cons.mpr ⟨mf_X10_gridIn, List.forall_mem_cons.mpr ⟨mf_X10_become, List.forall_mem_cons.mpr ⟨mf_X10_forgetOldest, fun _ h => absurd h List.not_mem_nil⟩⟩⟩⟩⟩⟩⟩⟩⟩⟩⟩⟩⟩⟩⟩⟩⟩⟩⟩⟩⟩⟩⟩⟩⟩⟩⟩⟩⟩⟩⟩⟩⟩⟩⟩⟩⟩⟩⟩⟩
def rz_ms_4 : List rz_M := [mz_X10_listSteps, mz_X10_drawCell, mz_X10_seekNearest, mz_X10_gcd, mz_X10_countTerms, mz_X10_findTerm, mz_X10_countSeen, mz_X10_findSeen, mz_X10_leastStepsSpan, mz_X10_indexesAgree, mz_X10_polygonAgrees, mz_X10_seenNeighboursSpan, mz_X10_hullIsLowest, mz_X11_init, mz_X11_thrown, mz_X11_no, mz_X11_in, mz_X11_isSlot, mz_X11_gcd, mz_X11_mod, mz_X11_becomes, mz_X11_highOf, mz_X11_spanned, mz_X11_remainder, mz_X11_nth, mz_X11_grids, mz_X11_lacks, mz_X11_lackBoth, mz_X11_form, mz_X11_hasIt, mz_X11_has, mz_X11_isWithin, mz_X11_isSame, mz_X11_parts, mz_X11_lackAll, mz_X11_meet, mz_X11_join, mz_X11_undo, mz_X11_times, mz_X11_floor]
set_option maxRecDepth 100000 in
theorem mfa_4 : ∀ M ∈ rz_ms_4, rz_mf M := List.forall_mem_cons.mpr ⟨mf_X10_listSteps, List.forall_mem_cons.mpr ⟨mf_X10_drawCell, List.forall_mem_cons.mpr ⟨mf_X10_seekNearest, List.forall_mem_cons.mpr ⟨mf_X10_gcd, List.forall_mem_cons.mpr ⟨mf_X10_countTerms, List.forall_mem_cons.mpr ⟨mf_X10_findTerm, List.forall_mem_cons.mpr ⟨mf_X10_countSeen, List.forall_mem_cons.mpr ⟨mf_X10_findSeen, List.forall_mem_cons.mpr ⟨mf_X10_leastStepsSpan, List.forall_mem_cons.mpr ⟨mf_X10_indexesAgree, List.forall_mem_cons.mpr ⟨mf_X10_polygonAgrees, List.forall_mem_cons.mpr ⟨mf_X10_seenNeighboursSpan, List.forall_mem_cons.mpr ⟨mf_X10_hullIsLowest, List.forall_mem_cons.mpr ⟨mf_X11_init, List.forall_mem_cons.mpr ⟨mf_X11_thrown, List.forall_mem_cons.mpr ⟨mf_X11_no, List.forall_mem_cons.mpr ⟨mf_X11_in, List.forall_mem_cons.mpr ⟨mf_X11_isSlot, List.forall_mem_cons.mpr ⟨mf_X11_gcd, List.forall_mem_cons.mpr ⟨mf_X11_mod, List.forall_mem_cons.mpr ⟨mf_X11_becomes, List.forall_mem_cons.mpr ⟨mf_X11_highOf, List.forall_mem_cons.mpr ⟨mf_X11_spanned, List.forall_mem_cons.mpr ⟨mf_X11_remainder, List.forall_mem_cons.mpr ⟨mf_X11_nth, List.forall_mem_cons.mpr ⟨mf_X11_grids, List.forall_mem_cons.mpr ⟨mf_X11_lacks, List.forall_mem_cons.mpr ⟨mf_X11_lackBoth, List.forall_mem_cons.mpr ⟨mf_X11_form, List.forall_mem_cons.mpr ⟨mf_X11_hasIt, List.forall_mem_cons.mpr ⟨mf_X11_has, List.forall_mem_cons.mpr ⟨mf_X11_isWithin, List.forall_mem_cons.mpr ⟨mf_X11_isSame, List.forall_mem_cons.mpr ⟨mf_X11_parts, List.forall_mem_cons.mpr ⟨mf_X11_lackAll, List.forall_mem_cons.mpr ⟨mf_X11_meet, List.forall_mem_cons.mpr ⟨mf_X11_join, List.forall_mem_cons.mpr ⟨mf_X11_undo, List.forall_mem_cons.mpr ⟨mf_X11_times, List.forall_mem_cons.mpr ⟨mf_X11_floor, fun _ h => absurd h List.not_mem_nil⟩⟩⟩⟩⟩⟩⟩⟩⟩⟩⟩⟩⟩⟩⟩⟩⟩⟩⟩⟩⟩⟩⟩⟩⟩⟩⟩⟩⟩⟩⟩⟩⟩⟩⟩⟩⟩⟩⟩⟩
def rz_ms_5 : List rz_M := [mz_X11_shortOf, mz_X11_isTold, mz_X11_isAhead, mz_X11_stepsOf, mz_X11_lacksStep, mz_X11_stepX, mz_X11_stepY, mz_X11_second, mz_X11_steps, mz_X11_nearest, mz_X11_lacksNear, mz_X11_nearX, mz_X11_nearY, mz_X11_around, mz_X11_corners, mz_X11_cellOf, mz_X11_adds, mz_X11_addsNumber, mz_X11_tellCorner, mz_X11_signAt, mz_X11_fewestOf, mz_X11_coins, mz_X11_lacksUpTo, mz_X11_lacks_, mz_X11_lackAt, mz_X11_canMake, mz_X11_fewest, mz_X11_ways, mz_X11_corner, mz_X11_clear, mz_X11_after, mz_X11_turn, mz_X11_isOn, mz_X11_doMeet, mz_X11_isPolygon, mz_X11_areaTwice, mz_X11_close, mz_X11_rimIts, mz_X11_rim, mz_X11_isInside]
set_option maxRecDepth 100000 in
theorem mfa_5 : ∀ M ∈ rz_ms_5, rz_mf M := List.forall_mem_cons.mpr ⟨mf_X11_shortOf, List.forall_mem_cons.mpr ⟨mf_X11_isTold, List.forall_mem_cons.mpr ⟨mf_X11_isAhead, List.forall_mem_cons.mpr ⟨mf_X11_stepsOf, List.forall_mem_cons.mpr ⟨mf_X11_lacksStep, List.forall_mem_cons.mpr ⟨mf_X11_stepX, List.forall_mem_cons.mpr ⟨mf_X11_stepY, List.forall_mem_cons.mpr ⟨mf_X11_second, List.forall_mem_cons.mpr ⟨mf_X11_steps, List.forall_mem_cons.mpr ⟨mf_X11_nearest, List.forall_mem_cons.mpr ⟨mf_X11_lacksNear, List.forall_mem_cons.mpr ⟨mf_X11_nearX, List.forall_mem_cons.mpr ⟨mf_X11_nearY, List.forall_mem_cons.mpr ⟨mf_X11_around, List.forall_mem_cons.mpr ⟨mf_X11_corners, List.forall_mem_cons.mpr ⟨mf_X11_cellOf, List.forall_mem_cons.mpr ⟨mf_X11_adds, List.forall_mem_cons.mpr ⟨mf_X11_addsNumber, List.forall_mem_cons.mpr ⟨mf_X11_tellCorner, List.forall_mem_cons.mpr ⟨mf_X11_signAt, List.forall_mem_cons.mpr ⟨mf_X11_fewestOf, List.forall_mem_cons.mpr ⟨mf_X11_coins, List.forall_mem_cons.mpr ⟨mf_X11_lacksUpTo, List.forall_mem_cons.mpr ⟨mf_X11_lacks_, List.forall_mem_cons.mpr ⟨mf_X11_lackAt, List.forall_mem_cons.mpr ⟨mf_X11_canMake, List.forall_mem_cons.mpr ⟨mf_X11_fewest, List.forall_mem_cons.mpr ⟨mf_X11_ways, List.forall_mem_cons.mpr ⟨mf_X11_corner, List.forall_mem_cons.mpr ⟨mf_X11_clear, List.forall_mem_cons.mpr ⟨mf_X11_after, List.forall_mem_cons.mpr ⟨mf_X11_turn, List.forall_mem_cons.mpr ⟨mf_X11_isOn, List.forall_mem_cons.mpr ⟨mf_X11_doMeet, List.forall_mem_cons.mpr ⟨mf_X11_isPolygon, List.forall_mem_cons.mpr ⟨mf_X11_areaTwice, List.forall_mem_cons.mpr ⟨mf_X11_close, List.forall_mem_cons.mpr ⟨mf_X11_rimIts, List.forall_mem_cons.mpr ⟨mf_X11_rim, List.forall_mem_cons.mpr ⟨mf_X11_isInside, fun _ h => absurd h List.not_mem_nil⟩⟩⟩⟩⟩⟩⟩⟩⟩⟩⟩⟩⟩⟩⟩⟩⟩⟩⟩⟩⟩⟩⟩⟩⟩⟩⟩⟩⟩⟩⟩⟩⟩⟩⟩⟩⟩⟩⟩⟩
def rz_ms_6 : List rz_M := [mz_X11_whereIts, mz_X11_where, mz_X11_within, mz_X11_isConvex, mz_X11_grown, mz_X11_isEar, mz_X11_triangleAt, mz_X11_tiles, mz_X11_seenOf, mz_X11_manyOf, mz_X11_seen, mz_X11_seenAt, mz_X11_leaps, mz_X11_areRight, mz_X11_termsOf, mz_X11_manyTerms, mz_X11_terms, mz_X11_termAt, mz_X11_lowest, mz_X11_hullOf, mz_X11_manyHull, mz_X11_hull, mz_X11_hullAt, mz_X11_held, mz_X11_checksum, mz_X11_isSound, mz_J9_floorDiv_7cf53, mz_J9_floorDiv_f86c9, mz_J9_floorMod_7cf53, mz_J9_floorMod_f86c9, mz_J9_abs_0f7a4, mz_J9_abs_067f4, mz_J9_max_7cf53, mz_J9_max_f86c9, mz_J9_min_7cf53, mz_J9_min_f86c9, mz_J7_fill_53178, mz_L_spanned, mz_L_remainder, mz_L_nth]
set_option maxRecDepth 100000 in
theorem mfa_6 : ∀ M ∈ rz_ms_6, rz_mf M := List.forall_mem_cons.mpr ⟨mf_X11_whereIts, List.forall_mem_cons.mpr ⟨mf_X11_where, List.forall_mem_cons.mpr ⟨mf_X11_within, List.forall_mem_cons.mpr ⟨mf_X11_isConvex, List.forall_mem_cons.mpr ⟨mf_X11_grown, List.forall_mem_cons.mpr ⟨mf_X11_isEar, List.forall_mem_cons.mpr ⟨mf_X11_triangleAt, List.forall_mem_cons.mpr ⟨mf_X11_tiles, List.forall_mem_cons.mpr ⟨mf_X11_seenOf, List.forall_mem_cons.mpr ⟨mf_X11_manyOf, List.forall_mem_cons.mpr ⟨mf_X11_seen, List.forall_mem_cons.mpr ⟨mf_X11_seenAt, List.forall_mem_cons.mpr ⟨mf_X11_leaps, List.forall_mem_cons.mpr ⟨mf_X11_areRight, List.forall_mem_cons.mpr ⟨mf_X11_termsOf, List.forall_mem_cons.mpr ⟨mf_X11_manyTerms, List.forall_mem_cons.mpr ⟨mf_X11_terms, List.forall_mem_cons.mpr ⟨mf_X11_termAt, List.forall_mem_cons.mpr ⟨mf_X11_lowest, List.forall_mem_cons.mpr ⟨mf_X11_hullOf, List.forall_mem_cons.mpr ⟨mf_X11_manyHull, List.forall_mem_cons.mpr ⟨mf_X11_hull, List.forall_mem_cons.mpr ⟨mf_X11_hullAt, List.forall_mem_cons.mpr ⟨mf_X11_held, List.forall_mem_cons.mpr ⟨mf_X11_checksum, List.forall_mem_cons.mpr ⟨mf_X11_isSound, List.forall_mem_cons.mpr ⟨mf_J9_floorDiv_7cf53, List.forall_mem_cons.mpr ⟨mf_J9_floorDiv_f86c9, List.forall_mem_cons.mpr ⟨mf_J9_floorMod_7cf53, List.forall_mem_cons.mpr ⟨mf_J9_floorMod_f86c9, List.forall_mem_cons.mpr ⟨mf_J9_abs_0f7a4, List.forall_mem_cons.mpr ⟨mf_J9_abs_067f4, List.forall_mem_cons.mpr ⟨mf_J9_max_7cf53, List.forall_mem_cons.mpr ⟨mf_J9_max_f86c9, List.forall_mem_cons.mpr ⟨mf_J9_min_7cf53, List.forall_mem_cons.mpr ⟨mf_J9_min_f86c9, List.forall_mem_cons.mpr ⟨mf_J7_fill_53178, List.forall_mem_cons.mpr ⟨mf_L_spanned, List.forall_mem_cons.mpr ⟨mf_L_remainder, List.forall_mem_cons.mpr ⟨mf_L_nth, fun _ h => absurd h List.not_mem_nil⟩⟩⟩⟩⟩⟩⟩⟩⟩⟩⟩⟩⟩⟩⟩⟩⟩⟩⟩⟩⟩⟩⟩⟩⟩⟩⟩⟩⟩⟩⟩⟩⟩⟩⟩⟩⟩⟩⟩⟩
def rz_ms_7 : List rz_M := [mz_L_grids, mz_L_form, mz_L_has, mz_L_isSame, mz_L_parts, mz_L_meet, mz_L_join, mz_L_undo, mz_L_stepX, mz_L_stepY, mz_L_second, mz_L_steps, mz_L_nearX, mz_L_nearY, mz_L_corners, mz_L_tellCorner, mz_L_signAt, mz_L_coins, mz_L_lacks, mz_L_lackAt, mz_L_canMake, mz_L_fewest, mz_L_ways, mz_L_corner, mz_L_close, mz_L_rim, mz_L_within, mz_L_where, mz_L_isConvex, mz_L_grown, mz_L_triangleAt, mz_L_tiles, mz_L_seen, mz_L_seenAt, mz_L_leaps, mz_L_terms, mz_L_termAt, mz_L_hull, mz_L_hullAt]
set_option maxRecDepth 100000 in
theorem mfa_7 : ∀ M ∈ rz_ms_7, rz_mf M := List.forall_mem_cons.mpr ⟨mf_L_grids, List.forall_mem_cons.mpr ⟨mf_L_form, List.forall_mem_cons.mpr ⟨mf_L_has, List.forall_mem_cons.mpr ⟨mf_L_isSame, List.forall_mem_cons.mpr ⟨mf_L_parts, List.forall_mem_cons.mpr ⟨mf_L_meet, List.forall_mem_cons.mpr ⟨mf_L_join, List.forall_mem_cons.mpr ⟨mf_L_undo, List.forall_mem_cons.mpr ⟨mf_L_stepX, List.forall_mem_cons.mpr ⟨mf_L_stepY, List.forall_mem_cons.mpr ⟨mf_L_second, List.forall_mem_cons.mpr ⟨mf_L_steps, List.forall_mem_cons.mpr ⟨mf_L_nearX, List.forall_mem_cons.mpr ⟨mf_L_nearY, List.forall_mem_cons.mpr ⟨mf_L_corners, List.forall_mem_cons.mpr ⟨mf_L_tellCorner, List.forall_mem_cons.mpr ⟨mf_L_signAt, List.forall_mem_cons.mpr ⟨mf_L_coins, List.forall_mem_cons.mpr ⟨mf_L_lacks, List.forall_mem_cons.mpr ⟨mf_L_lackAt, List.forall_mem_cons.mpr ⟨mf_L_canMake, List.forall_mem_cons.mpr ⟨mf_L_fewest, List.forall_mem_cons.mpr ⟨mf_L_ways, List.forall_mem_cons.mpr ⟨mf_L_corner, List.forall_mem_cons.mpr ⟨mf_L_close, List.forall_mem_cons.mpr ⟨mf_L_rim, List.forall_mem_cons.mpr ⟨mf_L_within, List.forall_mem_cons.mpr ⟨mf_L_where, List.forall_mem_cons.mpr ⟨mf_L_isConvex, List.forall_mem_cons.mpr ⟨mf_L_grown, List.forall_mem_cons.mpr ⟨mf_L_triangleAt, List.forall_mem_cons.mpr ⟨mf_L_tiles, List.forall_mem_cons.mpr ⟨mf_L_seen, List.forall_mem_cons.mpr ⟨mf_L_seenAt, List.forall_mem_cons.mpr ⟨mf_L_leaps, List.forall_mem_cons.mpr ⟨mf_L_terms, List.forall_mem_cons.mpr ⟨mf_L_termAt, List.forall_mem_cons.mpr ⟨mf_L_hull, List.forall_mem_cons.mpr ⟨mf_L_hullAt, fun _ h => absurd h List.not_mem_nil⟩⟩⟩⟩⟩⟩⟩⟩⟩⟩⟩⟩⟩⟩⟩⟩⟩⟩⟩⟩⟩⟩⟩⟩⟩⟩⟩⟩⟩⟩⟩⟩⟩⟩⟩⟩⟩⟩⟩
set_option maxRecDepth 100000 in
theorem rz_ms_app : rz_ms = rz_ms_0 ++ (rz_ms_1 ++ (rz_ms_2 ++ (rz_ms_3 ++ (rz_ms_4 ++ (rz_ms_5 ++ (rz_ms_6 ++ (rz_ms_7))))))) := rfl
theorem mfa : ∀ M ∈ rz_ms, rz_mf M := by
  rw [rz_ms_app]
  intro M h
  simp only [List.mem_append] at h
  rcases h with h | h | h | h | h | h | h | h
  · exact mfa_0 M h
  · exact mfa_1 M h
  · exact mfa_2 M h
  · exact mfa_3 M h
  · exact mfa_4 M h
  · exact mfa_5 M h
  · exact mfa_6 M h
  · exact mfa_7 M h
