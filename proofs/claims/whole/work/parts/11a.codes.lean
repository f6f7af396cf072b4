/-! part 11a: the codes, instruction by instruction, by tools/gen_facts.py -/
def rz_isw : Instr → Bool
  | .tableswitch _ _ _ _ => true
  | _ => false
def rz_ck (b : ByteArray) (q : Nat × Instr × Nat) : Bool := decide (decode b q.1 = .ok (q.2.1, q.2.2)) && ((Nat.beq (rz_len q.2.1) q.2.2 || rz_isw q.2.1) && rz_jok q.1 q.2.1)

set_option maxRecDepth 100000 in
theorem dk_X0_init : ∀ q ∈ kz_X0_init, rz_ck cX0_init q = true := List.all_eq_true.mp (by decide +kernel)
set_option maxRecDepth 100000 in
theorem dk_X0_reduce : ∀ q ∈ kz_X0_reduce, rz_ck cX0_reduce q = true := List.all_eq_true.mp (by decide +kernel)
set_option maxRecDepth 100000 in
theorem dk_X0_swap : ∀ q ∈ kz_X0_swap, rz_ck cX0_swap q = true := List.all_eq_true.mp (by decide +kernel)
set_option maxRecDepth 100000 in
theorem dk_X0_product : ∀ q ∈ kz_X0_product, rz_ck cX0_product q = true := List.all_eq_true.mp (by decide +kernel)
set_option maxRecDepth 100000 in
theorem dk_X0_turn : ∀ q ∈ kz_X0_turn, rz_ck cX0_turn q = true := List.all_eq_true.mp (by decide +kernel)
set_option maxRecDepth 100000 in
theorem dk_X0_seek : ∀ q ∈ kz_X0_seek, rz_ck cX0_seek q = true := List.all_eq_true.mp (by decide +kernel)
set_option maxRecDepth 100000 in
theorem dk_X0_compare : ∀ q ∈ kz_X0_compare, rz_ck cX0_compare q = true := List.all_eq_true.mp (by decide +kernel)
set_option maxRecDepth 100000 in
theorem dk_X1_init : ∀ q ∈ kz_X1_init, rz_ck cX1_init q = true := List.all_eq_true.mp (by decide +kernel)
set_option maxRecDepth 100000 in
theorem dk_X1_draw : ∀ q ∈ kz_X1_draw, rz_ck cX1_draw q = true := List.all_eq_true.mp (by decide +kernel)
set_option maxRecDepth 100000 in
theorem dk_X1_put : ∀ q ∈ kz_X1_put, rz_ck cX1_put q = true := List.all_eq_true.mp (by decide +kernel)
set_option maxRecDepth 100000 in
theorem dk_X1_findFirst : ∀ q ∈ kz_X1_findFirst, rz_ck cX1_findFirst q = true := List.all_eq_true.mp (by decide +kernel)
set_option maxRecDepth 100000 in
theorem dk_X1_overX : ∀ q ∈ kz_X1_overX, rz_ck cX1_overX q = true := List.all_eq_true.mp (by decide +kernel)
set_option maxRecDepth 100000 in
theorem dk_X1_overY : ∀ q ∈ kz_X1_overY, rz_ck cX1_overY q = true := List.all_eq_true.mp (by decide +kernel)
set_option maxRecDepth 100000 in
theorem dk_X1_placeOfCorner : ∀ q ∈ kz_X1_placeOfCorner, rz_ck cX1_placeOfCorner q = true := List.all_eq_true.mp (by decide +kernel)
set_option maxRecDepth 100000 in
theorem dk_X2_init : ∀ q ∈ kz_X2_init, rz_ck cX2_init q = true := List.all_eq_true.mp (by decide +kernel)
set_option maxRecDepth 100000 in
theorem dk_X2_cutAll : ∀ q ∈ kz_X2_cutAll, rz_ck cX2_cutAll q = true := List.all_eq_true.mp (by decide +kernel)
set_option maxRecDepth 100000 in
theorem dk_X2_cutFirst : ∀ q ∈ kz_X2_cutFirst, rz_ck cX2_cutFirst q = true := List.all_eq_true.mp (by decide +kernel)
set_option maxRecDepth 100000 in
theorem dk_X2_leftAt : ∀ q ∈ kz_X2_leftAt, rz_ck cX2_leftAt q = true := List.all_eq_true.mp (by decide +kernel)
set_option maxRecDepth 100000 in
theorem dk_X2_remove : ∀ q ∈ kz_X2_remove, rz_ck cX2_remove q = true := List.all_eq_true.mp (by decide +kernel)
set_option maxRecDepth 100000 in
theorem dk_X2_keep : ∀ q ∈ kz_X2_keep, rz_ck cX2_keep q = true := List.all_eq_true.mp (by decide +kernel)
set_option maxRecDepth 100000 in
theorem dk_X2_isEar : ∀ q ∈ kz_X2_isEar, rz_ck cX2_isEar q = true := List.all_eq_true.mp (by decide +kernel)
set_option maxRecDepth 100000 in
theorem dk_X2_cornerOf : ∀ q ∈ kz_X2_cornerOf, rz_ck cX2_cornerOf q = true := List.all_eq_true.mp (by decide +kernel)
set_option maxRecDepth 100000 in
theorem dk_X3_init : ∀ q ∈ kz_X3_init, rz_ck cX3_init q = true := List.all_eq_true.mp (by decide +kernel)
set_option maxRecDepth 100000 in
theorem dk_X3_generated : ∀ q ∈ kz_X3_generated, rz_ck cX3_generated q = true := List.all_eq_true.mp (by decide +kernel)
set_option maxRecDepth 100000 in
theorem dk_X3_ofMultiples : ∀ q ∈ kz_X3_ofMultiples, rz_ck cX3_ofMultiples q = true := List.all_eq_true.mp (by decide +kernel)
set_option maxRecDepth 100000 in
theorem dk_X3_ranked : ∀ q ∈ kz_X3_ranked, rz_ck cX3_ranked q = true := List.all_eq_true.mp (by decide +kernel)
set_option maxRecDepth 100000 in
theorem dk_X3_joinOf : ∀ q ∈ kz_X3_joinOf, rz_ck cX3_joinOf q = true := List.all_eq_true.mp (by decide +kernel)
set_option maxRecDepth 100000 in
theorem dk_X3_meetWidth : ∀ q ∈ kz_X3_meetWidth, rz_ck cX3_meetWidth q = true := List.all_eq_true.mp (by decide +kernel)
set_option maxRecDepth 100000 in
theorem dk_X3_meetHeight : ∀ q ∈ kz_X3_meetHeight, rz_ck cX3_meetHeight q = true := List.all_eq_true.mp (by decide +kernel)
set_option maxRecDepth 100000 in
theorem dk_X3_meetIndex : ∀ q ∈ kz_X3_meetIndex, rz_ck cX3_meetIndex q = true := List.all_eq_true.mp (by decide +kernel)
set_option maxRecDepth 100000 in
theorem dk_X3_meetOf : ∀ q ∈ kz_X3_meetOf, rz_ck cX3_meetOf q = true := List.all_eq_true.mp (by decide +kernel)
set_option maxRecDepth 100000 in
theorem dk_X3_index : ∀ q ∈ kz_X3_index, rz_ck cX3_index q = true := List.all_eq_true.mp (by decide +kernel)
set_option maxRecDepth 100000 in
theorem dk_X3_contains : ∀ q ∈ kz_X3_contains, rz_ck cX3_contains q = true := List.all_eq_true.mp (by decide +kernel)
set_option maxRecDepth 100000 in
theorem dk_X3_isPartOf : ∀ q ∈ kz_X3_isPartOf, rz_ck cX3_isPartOf q = true := List.all_eq_true.mp (by decide +kernel)
set_option maxRecDepth 100000 in
theorem dk_X3_countUpTo : ∀ q ∈ kz_X3_countUpTo, rz_ck cX3_countUpTo q = true := List.all_eq_true.mp (by decide +kernel)
set_option maxRecDepth 100000 in
theorem dk_X3_classOf : ∀ q ∈ kz_X3_classOf, rz_ck cX3_classOf q = true := List.all_eq_true.mp (by decide +kernel)
set_option maxRecDepth 100000 in
theorem dk_X4_init : ∀ q ∈ kz_X4_init, rz_ck cX4_init q = true := List.all_eq_true.mp (by decide +kernel)
set_option maxRecDepth 100000 in
theorem dk_X4_build : ∀ q ∈ kz_X4_build, rz_ck cX4_build q = true := List.all_eq_true.mp (by decide +kernel)
set_option maxRecDepth 100000 in
theorem dk_X4_lowest : ∀ q ∈ kz_X4_lowest, rz_ck cX4_lowest q = true := List.all_eq_true.mp (by decide +kernel)
set_option maxRecDepth 100000 in
theorem dk_X4_add : ∀ q ∈ kz_X4_add, rz_ck cX4_add q = true := List.all_eq_true.mp (by decide +kernel)
set_option maxRecDepth 100000 in
theorem dk_X4_xOf : ∀ q ∈ kz_X4_xOf, rz_ck cX4_xOf q = true := List.all_eq_true.mp (by decide +kernel)
set_option maxRecDepth 100000 in
theorem dk_X4_yOf : ∀ q ∈ kz_X4_yOf, rz_ck cX4_yOf q = true := List.all_eq_true.mp (by decide +kernel)
set_option maxRecDepth 100000 in
theorem dk_X4_turn : ∀ q ∈ kz_X4_turn, rz_ck cX4_turn q = true := List.all_eq_true.mp (by decide +kernel)
set_option maxRecDepth 100000 in
theorem dk_X4_bendsUp : ∀ q ∈ kz_X4_bendsUp, rz_ck cX4_bendsUp q = true := List.all_eq_true.mp (by decide +kernel)
set_option maxRecDepth 100000 in
theorem dk_X4_liesBelowAll : ∀ q ∈ kz_X4_liesBelowAll, rz_ck cX4_liesBelowAll q = true := List.all_eq_true.mp (by decide +kernel)
set_option maxRecDepth 100000 in
theorem dk_X5_init : ∀ q ∈ kz_X5_init, rz_ck cX5_init q = true := List.all_eq_true.mp (by decide +kernel)
set_option maxRecDepth 100000 in
theorem dk_X5_countTo : ∀ q ∈ kz_X5_countTo, rz_ck cX5_countTo q = true := List.all_eq_true.mp (by decide +kernel)
set_option maxRecDepth 100000 in
theorem dk_X5_leapFrom : ∀ q ∈ kz_X5_leapFrom, rz_ck cX5_leapFrom q = true := List.all_eq_true.mp (by decide +kernel)
set_option maxRecDepth 100000 in
theorem dk_X5_comeTo : ∀ q ∈ kz_X5_comeTo, rz_ck cX5_comeTo q = true := List.all_eq_true.mp (by decide +kernel)
set_option maxRecDepth 100000 in
theorem dk_X5_placeOfPoint : ∀ q ∈ kz_X5_placeOfPoint, rz_ck cX5_placeOfPoint q = true := List.all_eq_true.mp (by decide +kernel)
set_option maxRecDepth 100000 in
theorem dk_X6_init : ∀ q ∈ kz_X6_init, rz_ck cX6_init q = true := List.all_eq_true.mp (by decide +kernel)
set_option maxRecDepth 100000 in
theorem dk_X6_type : ∀ q ∈ kz_X6_type, rz_ck cX6_type q = true := List.all_eq_true.mp (by decide +kernel)
set_option maxRecDepth 100000 in
theorem dk_X6_takeAway : ∀ q ∈ kz_X6_takeAway, rz_ck cX6_takeAway q = true := List.all_eq_true.mp (by decide +kernel)
set_option maxRecDepth 100000 in
theorem dk_X6_shut : ∀ q ∈ kz_X6_shut, rz_ck cX6_shut q = true := List.all_eq_true.mp (by decide +kernel)
set_option maxRecDepth 100000 in
theorem dk_X6_xOf : ∀ q ∈ kz_X6_xOf, rz_ck cX6_xOf q = true := List.all_eq_true.mp (by decide +kernel)
set_option maxRecDepth 100000 in
theorem dk_X6_yOf : ∀ q ∈ kz_X6_yOf, rz_ck cX6_yOf q = true := List.all_eq_true.mp (by decide +kernel)
set_option maxRecDepth 100000 in
theorem dk_X6_after : ∀ q ∈ kz_X6_after, rz_ck cX6_after q = true := List.all_eq_true.mp (by decide +kernel)
set_option maxRecDepth 100000 in
theorem dk_X6_turn : ∀ q ∈ kz_X6_turn, rz_ck cX6_turn q = true := List.all_eq_true.mp (by decide +kernel)
set_option maxRecDepth 100000 in
theorem dk_X6_signedArea : ∀ q ∈ kz_X6_signedArea, rz_ck cX6_signedArea q = true := List.all_eq_true.mp (by decide +kernel)
set_option maxRecDepth 100000 in
theorem dk_X6_twiceArea : ∀ q ∈ kz_X6_twiceArea, rz_ck cX6_twiceArea q = true := List.all_eq_true.mp (by decide +kernel)
set_option maxRecDepth 100000 in
theorem dk_X6_rimPoints : ∀ q ∈ kz_X6_rimPoints, rz_ck cX6_rimPoints q = true := List.all_eq_true.mp (by decide +kernel)
set_option maxRecDepth 100000 in
theorem dk_X6_isProper : ∀ q ∈ kz_X6_isProper, rz_ck cX6_isProper q = true := List.all_eq_true.mp (by decide +kernel)
set_option maxRecDepth 100000 in
theorem dk_X6_foldsBack : ∀ q ∈ kz_X6_foldsBack, rz_ck cX6_foldsBack q = true := List.all_eq_true.mp (by decide +kernel)
set_option maxRecDepth 100000 in
theorem dk_X6_sidesMeet : ∀ q ∈ kz_X6_sidesMeet, rz_ck cX6_sidesMeet q = true := List.all_eq_true.mp (by decide +kernel)
set_option maxRecDepth 100000 in
theorem dk_X6_isOn : ∀ q ∈ kz_X6_isOn, rz_ck cX6_isOn q = true := List.all_eq_true.mp (by decide +kernel)
set_option maxRecDepth 100000 in
theorem dk_X6_crosses : ∀ q ∈ kz_X6_crosses, rz_ck cX6_crosses q = true := List.all_eq_true.mp (by decide +kernel)
set_option maxRecDepth 100000 in
theorem dk_X6_placeOf : ∀ q ∈ kz_X6_placeOf, rz_ck cX6_placeOf q = true := List.all_eq_true.mp (by decide +kernel)
set_option maxRecDepth 100000 in
theorem dk_X6_findSidesAt : ∀ q ∈ kz_X6_findSidesAt, rz_ck cX6_findSidesAt q = true := List.all_eq_true.mp (by decide +kernel)
set_option maxRecDepth 100000 in
theorem dk_X6_placeInRow : ∀ q ∈ kz_X6_placeInRow, rz_ck cX6_placeInRow q = true := List.all_eq_true.mp (by decide +kernel)
set_option maxRecDepth 100000 in
theorem dk_X6_turnsOneWay : ∀ q ∈ kz_X6_turnsOneWay, rz_ck cX6_turnsOneWay q = true := List.all_eq_true.mp (by decide +kernel)
set_option maxRecDepth 100000 in
theorem dk_X6_isUpright : ∀ q ∈ kz_X6_isUpright, rz_ck cX6_isUpright q = true := List.all_eq_true.mp (by decide +kernel)
set_option maxRecDepth 100000 in
theorem dk_X6_fillsBy : ∀ q ∈ kz_X6_fillsBy, rz_ck cX6_fillsBy q = true := List.all_eq_true.mp (by decide +kernel)
set_option maxRecDepth 100000 in
theorem dk_X6_isMarked : ∀ q ∈ kz_X6_isMarked, rz_ck cX6_isMarked q = true := List.all_eq_true.mp (by decide +kernel)
set_option maxRecDepth 100000 in
theorem dk_X6_hasSquare : ∀ q ∈ kz_X6_hasSquare, rz_ck cX6_hasSquare q = true := List.all_eq_true.mp (by decide +kernel)
set_option maxRecDepth 100000 in
theorem dk_X6_least : ∀ q ∈ kz_X6_least, rz_ck cX6_least q = true := List.all_eq_true.mp (by decide +kernel)
set_option maxRecDepth 100000 in
theorem dk_X6_greatest : ∀ q ∈ kz_X6_greatest, rz_ck cX6_greatest q = true := List.all_eq_true.mp (by decide +kernel)
set_option maxRecDepth 100000 in
theorem dk_X6_countsAgree : ∀ q ∈ kz_X6_countsAgree, rz_ck cX6_countsAgree q = true := List.all_eq_true.mp (by decide +kernel)
set_option maxRecDepth 100000 in
theorem dk_X6_addTo : ∀ q ∈ kz_X6_addTo, rz_ck cX6_addTo q = true := List.all_eq_true.mp (by decide +kernel)
set_option maxRecDepth 100000 in
theorem dk_X7_init : ∀ q ∈ kz_X7_init, rz_ck cX7_init q = true := List.all_eq_true.mp (by decide +kernel)
set_option maxRecDepth 100000 in
theorem dk_X7_areValues : ∀ q ∈ kz_X7_areValues, rz_ck cX7_areValues q = true := List.all_eq_true.mp (by decide +kernel)
set_option maxRecDepth 100000 in
theorem dk_X7_isValue : ∀ q ∈ kz_X7_isValue, rz_ck cX7_isValue q = true := List.all_eq_true.mp (by decide +kernel)
set_option maxRecDepth 100000 in
theorem dk_X7_take : ∀ q ∈ kz_X7_take, rz_ck cX7_take q = true := List.all_eq_true.mp (by decide +kernel)
set_option maxRecDepth 100000 in
theorem dk_X7_addKind : ∀ q ∈ kz_X7_addKind, rz_ck cX7_addKind q = true := List.all_eq_true.mp (by decide +kernel)
set_option maxRecDepth 100000 in
theorem dk_X7_countLacks : ∀ q ∈ kz_X7_countLacks, rz_ck cX7_countLacks q = true := List.all_eq_true.mp (by decide +kernel)
set_option maxRecDepth 100000 in
theorem dk_X7_lackOf : ∀ q ∈ kz_X7_lackOf, rz_ck cX7_lackOf q = true := List.all_eq_true.mp (by decide +kernel)
set_option maxRecDepth 100000 in
theorem dk_X7_leastCoins : ∀ q ∈ kz_X7_leastCoins, rz_ck cX7_leastCoins q = true := List.all_eq_true.mp (by decide +kernel)
set_option maxRecDepth 100000 in
theorem dk_X7_wayCount : ∀ q ∈ kz_X7_wayCount, rz_ck cX7_wayCount q = true := List.all_eq_true.mp (by decide +kernel)
set_option maxRecDepth 100000 in
theorem dk_X7_addTo : ∀ q ∈ kz_X7_addTo, rz_ck cX7_addTo q = true := List.all_eq_true.mp (by decide +kernel)
set_option maxRecDepth 100000 in
theorem dk_X7_lacksAreHalf : ∀ q ∈ kz_X7_lacksAreHalf, rz_ck cX7_lacksAreHalf q = true := List.all_eq_true.mp (by decide +kernel)
set_option maxRecDepth 100000 in
theorem dk_X8_init : ∀ q ∈ kz_X8_init, rz_ck cX8_init q = true := List.all_eq_true.mp (by decide +kernel)
set_option maxRecDepth 100000 in
theorem dk_X8_fill : ∀ q ∈ kz_X8_fill, rz_ck cX8_fill q = true := List.all_eq_true.mp (by decide +kernel)
set_option maxRecDepth 100000 in
theorem dk_X8_add : ∀ q ∈ kz_X8_add, rz_ck cX8_add q = true := List.all_eq_true.mp (by decide +kernel)
set_option maxRecDepth 100000 in
theorem dk_X8_isAhead : ∀ q ∈ kz_X8_isAhead, rz_ck cX8_isAhead q = true := List.all_eq_true.mp (by decide +kernel)
set_option maxRecDepth 100000 in
theorem dk_X8_xOf : ∀ q ∈ kz_X8_xOf, rz_ck cX8_xOf q = true := List.all_eq_true.mp (by decide +kernel)
set_option maxRecDepth 100000 in
theorem dk_X8_yOf : ∀ q ∈ kz_X8_yOf, rz_ck cX8_yOf q = true := List.all_eq_true.mp (by decide +kernel)
set_option maxRecDepth 100000 in
theorem dk_X8_firstAside : ∀ q ∈ kz_X8_firstAside, rz_ck cX8_firstAside q = true := List.all_eq_true.mp (by decide +kernel)
set_option maxRecDepth 100000 in
theorem dk_X9_init : ∀ q ∈ kz_X9_init, rz_ck cX9_init q = true := List.all_eq_true.mp (by decide +kernel)
set_option maxRecDepth 100000 in
theorem dk_X9_sign : ∀ q ∈ kz_X9_sign, rz_ck cX9_sign q = true := List.all_eq_true.mp (by decide +kernel)
set_option maxRecDepth 100000 in
theorem dk_X9_becomeNumber : ∀ q ∈ kz_X9_becomeNumber, rz_ck cX9_becomeNumber q = true := List.all_eq_true.mp (by decide +kernel)
set_option maxRecDepth 100000 in
theorem dk_X9_becomeFraction : ∀ q ∈ kz_X9_becomeFraction, rz_ck cX9_becomeFraction q = true := List.all_eq_true.mp (by decide +kernel)
set_option maxRecDepth 100000 in
theorem dk_X9_becomeProductAndOne : ∀ q ∈ kz_X9_becomeProductAndOne, rz_ck cX9_becomeProductAndOne q = true := List.all_eq_true.mp (by decide +kernel)
set_option maxRecDepth 100000 in
theorem dk_X9_putNumber : ∀ q ∈ kz_X9_putNumber, rz_ck cX9_putNumber q = true := List.all_eq_true.mp (by decide +kernel)
set_option maxRecDepth 100000 in
theorem dk_X9_putDigits : ∀ q ∈ kz_X9_putDigits, rz_ck cX9_putDigits q = true := List.all_eq_true.mp (by decide +kernel)
set_option maxRecDepth 100000 in
theorem dk_X9_putSign : ∀ q ∈ kz_X9_putSign, rz_ck cX9_putSign q = true := List.all_eq_true.mp (by decide +kernel)
set_option maxRecDepth 100000 in
theorem dk_X9_addTo : ∀ q ∈ kz_X9_addTo, rz_ck cX9_addTo q = true := List.all_eq_true.mp (by decide +kernel)
set_option maxRecDepth 100000 in
theorem dk_X10_init : ∀ q ∈ kz_X10_init, rz_ck cX10_init q = true := List.all_eq_true.mp (by decide +kernel)
set_option maxRecDepth 100000 in
theorem dk_X10_spanned : ∀ q ∈ kz_X10_spanned, rz_ck cX10_spanned q = true := List.all_eq_true.mp (by decide +kernel)
set_option maxRecDepth 100000 in
theorem dk_X10_remainder : ∀ q ∈ kz_X10_remainder, rz_ck cX10_remainder q = true := List.all_eq_true.mp (by decide +kernel)
set_option maxRecDepth 100000 in
theorem dk_X10_nth : ∀ q ∈ kz_X10_nth, rz_ck cX10_nth q = true := List.all_eq_true.mp (by decide +kernel)
set_option maxRecDepth 100000 in
theorem dk_X10_grids : ∀ q ∈ kz_X10_grids, rz_ck cX10_grids q = true := List.all_eq_true.mp (by decide +kernel)
set_option maxRecDepth 100000 in
theorem dk_X10_form : ∀ q ∈ kz_X10_form, rz_ck cX10_form q = true := List.all_eq_true.mp (by decide +kernel)
set_option maxRecDepth 100000 in
theorem dk_X10_has : ∀ q ∈ kz_X10_has, rz_ck cX10_has q = true := List.all_eq_true.mp (by decide +kernel)
set_option maxRecDepth 100000 in
theorem dk_X10_isSame : ∀ q ∈ kz_X10_isSame, rz_ck cX10_isSame q = true := List.all_eq_true.mp (by decide +kernel)
set_option maxRecDepth 100000 in
theorem dk_X10_parts : ∀ q ∈ kz_X10_parts, rz_ck cX10_parts q = true := List.all_eq_true.mp (by decide +kernel)
set_option maxRecDepth 100000 in
theorem dk_X10_meet : ∀ q ∈ kz_X10_meet, rz_ck cX10_meet q = true := List.all_eq_true.mp (by decide +kernel)
set_option maxRecDepth 100000 in
theorem dk_X10_join : ∀ q ∈ kz_X10_join, rz_ck cX10_join q = true := List.all_eq_true.mp (by decide +kernel)
set_option maxRecDepth 100000 in
theorem dk_X10_undo : ∀ q ∈ kz_X10_undo, rz_ck cX10_undo q = true := List.all_eq_true.mp (by decide +kernel)
set_option maxRecDepth 100000 in
theorem dk_X10_stepX : ∀ q ∈ kz_X10_stepX, rz_ck cX10_stepX q = true := List.all_eq_true.mp (by decide +kernel)
set_option maxRecDepth 100000 in
theorem dk_X10_stepY : ∀ q ∈ kz_X10_stepY, rz_ck cX10_stepY q = true := List.all_eq_true.mp (by decide +kernel)
set_option maxRecDepth 100000 in
theorem dk_X10_second : ∀ q ∈ kz_X10_second, rz_ck cX10_second q = true := List.all_eq_true.mp (by decide +kernel)
set_option maxRecDepth 100000 in
theorem dk_X10_steps : ∀ q ∈ kz_X10_steps, rz_ck cX10_steps q = true := List.all_eq_true.mp (by decide +kernel)
set_option maxRecDepth 100000 in
theorem dk_X10_nearX : ∀ q ∈ kz_X10_nearX, rz_ck cX10_nearX q = true := List.all_eq_true.mp (by decide +kernel)
set_option maxRecDepth 100000 in
theorem dk_X10_nearY : ∀ q ∈ kz_X10_nearY, rz_ck cX10_nearY q = true := List.all_eq_true.mp (by decide +kernel)
set_option maxRecDepth 100000 in
theorem dk_X10_corners : ∀ q ∈ kz_X10_corners, rz_ck cX10_corners q = true := List.all_eq_true.mp (by decide +kernel)
set_option maxRecDepth 100000 in
theorem dk_X10_tellCorner : ∀ q ∈ kz_X10_tellCorner, rz_ck cX10_tellCorner q = true := List.all_eq_true.mp (by decide +kernel)
set_option maxRecDepth 100000 in
theorem dk_X10_signAt : ∀ q ∈ kz_X10_signAt, rz_ck cX10_signAt q = true := List.all_eq_true.mp (by decide +kernel)
set_option maxRecDepth 100000 in
theorem dk_X10_coins : ∀ q ∈ kz_X10_coins, rz_ck cX10_coins q = true := List.all_eq_true.mp (by decide +kernel)
set_option maxRecDepth 100000 in
theorem dk_X10_lacks : ∀ q ∈ kz_X10_lacks, rz_ck cX10_lacks q = true := List.all_eq_true.mp (by decide +kernel)
set_option maxRecDepth 100000 in
theorem dk_X10_lackAt : ∀ q ∈ kz_X10_lackAt, rz_ck cX10_lackAt q = true := List.all_eq_true.mp (by decide +kernel)
set_option maxRecDepth 100000 in
theorem dk_X10_canMake : ∀ q ∈ kz_X10_canMake, rz_ck cX10_canMake q = true := List.all_eq_true.mp (by decide +kernel)
set_option maxRecDepth 100000 in
theorem dk_X10_fewest : ∀ q ∈ kz_X10_fewest, rz_ck cX10_fewest q = true := List.all_eq_true.mp (by decide +kernel)
set_option maxRecDepth 100000 in
theorem dk_X10_ways : ∀ q ∈ kz_X10_ways, rz_ck cX10_ways q = true := List.all_eq_true.mp (by decide +kernel)
set_option maxRecDepth 100000 in
theorem dk_X10_corner : ∀ q ∈ kz_X10_corner, rz_ck cX10_corner q = true := List.all_eq_true.mp (by decide +kernel)
set_option maxRecDepth 100000 in
theorem dk_X10_clear : ∀ q ∈ kz_X10_clear, rz_ck cX10_clear q = true := List.all_eq_true.mp (by decide +kernel)
set_option maxRecDepth 100000 in
theorem dk_X10_close : ∀ q ∈ kz_X10_close, rz_ck cX10_close q = true := List.all_eq_true.mp (by decide +kernel)
set_option maxRecDepth 100000 in
theorem dk_X10_rim : ∀ q ∈ kz_X10_rim, rz_ck cX10_rim q = true := List.all_eq_true.mp (by decide +kernel)
set_option maxRecDepth 100000 in
theorem dk_X10_within : ∀ q ∈ kz_X10_within, rz_ck cX10_within q = true := List.all_eq_true.mp (by decide +kernel)
set_option maxRecDepth 100000 in
theorem dk_X10_where : ∀ q ∈ kz_X10_where, rz_ck cX10_where q = true := List.all_eq_true.mp (by decide +kernel)
set_option maxRecDepth 100000 in
theorem dk_X10_isConvex : ∀ q ∈ kz_X10_isConvex, rz_ck cX10_isConvex q = true := List.all_eq_true.mp (by decide +kernel)
set_option maxRecDepth 100000 in
theorem dk_X10_grown : ∀ q ∈ kz_X10_grown, rz_ck cX10_grown q = true := List.all_eq_true.mp (by decide +kernel)
set_option maxRecDepth 100000 in
theorem dk_X10_triangleAt : ∀ q ∈ kz_X10_triangleAt, rz_ck cX10_triangleAt q = true := List.all_eq_true.mp (by decide +kernel)
set_option maxRecDepth 100000 in
theorem dk_X10_tiles : ∀ q ∈ kz_X10_tiles, rz_ck cX10_tiles q = true := List.all_eq_true.mp (by decide +kernel)
set_option maxRecDepth 100000 in
theorem dk_X10_seen : ∀ q ∈ kz_X10_seen, rz_ck cX10_seen q = true := List.all_eq_true.mp (by decide +kernel)
set_option maxRecDepth 100000 in
theorem dk_X10_seenAt : ∀ q ∈ kz_X10_seenAt, rz_ck cX10_seenAt q = true := List.all_eq_true.mp (by decide +kernel)
set_option maxRecDepth 100000 in
theorem dk_X10_leaps : ∀ q ∈ kz_X10_leaps, rz_ck cX10_leaps q = true := List.all_eq_true.mp (by decide +kernel)
set_option maxRecDepth 100000 in
theorem dk_X10_terms : ∀ q ∈ kz_X10_terms, rz_ck cX10_terms q = true := List.all_eq_true.mp (by decide +kernel)
set_option maxRecDepth 100000 in
theorem dk_X10_termAt : ∀ q ∈ kz_X10_termAt, rz_ck cX10_termAt q = true := List.all_eq_true.mp (by decide +kernel)
set_option maxRecDepth 100000 in
theorem dk_X10_hull : ∀ q ∈ kz_X10_hull, rz_ck cX10_hull q = true := List.all_eq_true.mp (by decide +kernel)
set_option maxRecDepth 100000 in
theorem dk_X10_hullAt : ∀ q ∈ kz_X10_hullAt, rz_ck cX10_hullAt q = true := List.all_eq_true.mp (by decide +kernel)
set_option maxRecDepth 100000 in
theorem dk_X10_held : ∀ q ∈ kz_X10_held, rz_ck cX10_held q = true := List.all_eq_true.mp (by decide +kernel)
set_option maxRecDepth 100000 in
theorem dk_X10_checksum : ∀ q ∈ kz_X10_checksum, rz_ck cX10_checksum q = true := List.all_eq_true.mp (by decide +kernel)
set_option maxRecDepth 100000 in
theorem dk_X10_isSound : ∀ q ∈ kz_X10_isSound, rz_ck cX10_isSound q = true := List.all_eq_true.mp (by decide +kernel)
set_option maxRecDepth 100000 in
theorem dk_X10_checkSlot : ∀ q ∈ kz_X10_checkSlot, rz_ck cX10_checkSlot q = true := List.all_eq_true.mp (by decide +kernel)
set_option maxRecDepth 100000 in
theorem dk_X10_checkRange : ∀ q ∈ kz_X10_checkRange, rz_ck cX10_checkRange q = true := List.all_eq_true.mp (by decide +kernel)
set_option maxRecDepth 100000 in
theorem dk_X10_checkFraction : ∀ q ∈ kz_X10_checkFraction, rz_ck cX10_checkFraction q = true := List.all_eq_true.mp (by decide +kernel)
set_option maxRecDepth 100000 in
theorem dk_X10_checkCoins : ∀ q ∈ kz_X10_checkCoins, rz_ck cX10_checkCoins q = true := List.all_eq_true.mp (by decide +kernel)
set_option maxRecDepth 100000 in
theorem dk_X10_checkClosed : ∀ q ∈ kz_X10_checkClosed, rz_ck cX10_checkClosed q = true := List.all_eq_true.mp (by decide +kernel)
set_option maxRecDepth 100000 in
theorem dk_X10_gridIn : ∀ q ∈ kz_X10_gridIn, rz_ck cX10_gridIn q = true := List.all_eq_true.mp (by decide +kernel)
set_option maxRecDepth 100000 in
theorem dk_X10_become : ∀ q ∈ kz_X10_become, rz_ck cX10_become q = true := List.all_eq_true.mp (by decide +kernel)
set_option maxRecDepth 100000 in
theorem dk_X10_forgetOldest : ∀ q ∈ kz_X10_forgetOldest, rz_ck cX10_forgetOldest q = true := List.all_eq_true.mp (by decide +kernel)
set_option maxRecDepth 100000 in
theorem dk_X10_listSteps : ∀ q ∈ kz_X10_listSteps, rz_ck cX10_listSteps q = true := List.all_eq_true.mp (by decide +kernel)
set_option maxRecDepth 100000 in
theorem dk_X10_drawCell : ∀ q ∈ kz_X10_drawCell, rz_ck cX10_drawCell q = true := List.all_eq_true.mp (by decide +kernel)
set_option maxRecDepth 100000 in
theorem dk_X10_seekNearest : ∀ q ∈ kz_X10_seekNearest, rz_ck cX10_seekNearest q = true := List.all_eq_true.mp (by decide +kernel)
set_option maxRecDepth 100000 in
theorem dk_X10_gcd : ∀ q ∈ kz_X10_gcd, rz_ck cX10_gcd q = true := List.all_eq_true.mp (by decide +kernel)
set_option maxRecDepth 100000 in
theorem dk_X10_countTerms : ∀ q ∈ kz_X10_countTerms, rz_ck cX10_countTerms q = true := List.all_eq_true.mp (by decide +kernel)
set_option maxRecDepth 100000 in
theorem dk_X10_findTerm : ∀ q ∈ kz_X10_findTerm, rz_ck cX10_findTerm q = true := List.all_eq_true.mp (by decide +kernel)
set_option maxRecDepth 100000 in
theorem dk_X10_countSeen : ∀ q ∈ kz_X10_countSeen, rz_ck cX10_countSeen q = true := List.all_eq_true.mp (by decide +kernel)
set_option maxRecDepth 100000 in
theorem dk_X10_findSeen : ∀ q ∈ kz_X10_findSeen, rz_ck cX10_findSeen q = true := List.all_eq_true.mp (by decide +kernel)
set_option maxRecDepth 100000 in
theorem dk_X10_leastStepsSpan : ∀ q ∈ kz_X10_leastStepsSpan, rz_ck cX10_leastStepsSpan q = true := List.all_eq_true.mp (by decide +kernel)
set_option maxRecDepth 100000 in
theorem dk_X10_indexesAgree : ∀ q ∈ kz_X10_indexesAgree, rz_ck cX10_indexesAgree q = true := List.all_eq_true.mp (by decide +kernel)
set_option maxRecDepth 100000 in
theorem dk_X10_polygonAgrees : ∀ q ∈ kz_X10_polygonAgrees, rz_ck cX10_polygonAgrees q = true := List.all_eq_true.mp (by decide +kernel)
set_option maxRecDepth 100000 in
theorem dk_X10_seenNeighboursSpan : ∀ q ∈ kz_X10_seenNeighboursSpan, rz_ck cX10_seenNeighboursSpan q = true := List.all_eq_true.mp (by decide +kernel)
set_option maxRecDepth 100000 in
theorem dk_X10_hullIsLowest : ∀ q ∈ kz_X10_hullIsLowest, rz_ck cX10_hullIsLowest q = true := List.all_eq_true.mp (by decide +kernel)
set_option maxRecDepth 100000 in
theorem dk_X11_init : ∀ q ∈ kz_X11_init, rz_ck cX11_init q = true := List.all_eq_true.mp (by decide +kernel)
set_option maxRecDepth 100000 in
theorem dk_X11_thrown : ∀ q ∈ kz_X11_thrown, rz_ck cX11_thrown q = true := List.all_eq_true.mp (by decide +kernel)
set_option maxRecDepth 100000 in
theorem dk_X11_no : ∀ q ∈ kz_X11_no, rz_ck cX11_no q = true := List.all_eq_true.mp (by decide +kernel)
set_option maxRecDepth 100000 in
theorem dk_X11_in : ∀ q ∈ kz_X11_in, rz_ck cX11_in q = true := List.all_eq_true.mp (by decide +kernel)
set_option maxRecDepth 100000 in
theorem dk_X11_isSlot : ∀ q ∈ kz_X11_isSlot, rz_ck cX11_isSlot q = true := List.all_eq_true.mp (by decide +kernel)
set_option maxRecDepth 100000 in
theorem dk_X11_gcd : ∀ q ∈ kz_X11_gcd, rz_ck cX11_gcd q = true := List.all_eq_true.mp (by decide +kernel)
set_option maxRecDepth 100000 in
theorem dk_X11_mod : ∀ q ∈ kz_X11_mod, rz_ck cX11_mod q = true := List.all_eq_true.mp (by decide +kernel)
set_option maxRecDepth 100000 in
theorem dk_X11_becomes : ∀ q ∈ kz_X11_becomes, rz_ck cX11_becomes q = true := List.all_eq_true.mp (by decide +kernel)
set_option maxRecDepth 100000 in
theorem dk_X11_highOf : ∀ q ∈ kz_X11_highOf, rz_ck cX11_highOf q = true := List.all_eq_true.mp (by decide +kernel)
set_option maxRecDepth 100000 in
theorem dk_X11_spanned : ∀ q ∈ kz_X11_spanned, rz_ck cX11_spanned q = true := List.all_eq_true.mp (by decide +kernel)
set_option maxRecDepth 100000 in
theorem dk_X11_remainder : ∀ q ∈ kz_X11_remainder, rz_ck cX11_remainder q = true := List.all_eq_true.mp (by decide +kernel)
set_option maxRecDepth 100000 in
theorem dk_X11_nth : ∀ q ∈ kz_X11_nth, rz_ck cX11_nth q = true := List.all_eq_true.mp (by decide +kernel)
set_option maxRecDepth 100000 in
theorem dk_X11_grids : ∀ q ∈ kz_X11_grids, rz_ck cX11_grids q = true := List.all_eq_true.mp (by decide +kernel)
set_option maxRecDepth 100000 in
theorem dk_X11_lacks : ∀ q ∈ kz_X11_lacks, rz_ck cX11_lacks q = true := List.all_eq_true.mp (by decide +kernel)
set_option maxRecDepth 100000 in
theorem dk_X11_lackBoth : ∀ q ∈ kz_X11_lackBoth, rz_ck cX11_lackBoth q = true := List.all_eq_true.mp (by decide +kernel)
set_option maxRecDepth 100000 in
theorem dk_X11_form : ∀ q ∈ kz_X11_form, rz_ck cX11_form q = true := List.all_eq_true.mp (by decide +kernel)
set_option maxRecDepth 100000 in
theorem dk_X11_hasIt : ∀ q ∈ kz_X11_hasIt, rz_ck cX11_hasIt q = true := List.all_eq_true.mp (by decide +kernel)
set_option maxRecDepth 100000 in
theorem dk_X11_has : ∀ q ∈ kz_X11_has, rz_ck cX11_has q = true := List.all_eq_true.mp (by decide +kernel)
set_option maxRecDepth 100000 in
theorem dk_X11_isWithin : ∀ q ∈ kz_X11_isWithin, rz_ck cX11_isWithin q = true := List.all_eq_true.mp (by decide +kernel)
set_option maxRecDepth 100000 in
theorem dk_X11_isSame : ∀ q ∈ kz_X11_isSame, rz_ck cX11_isSame q = true := List.all_eq_true.mp (by decide +kernel)
set_option maxRecDepth 100000 in
theorem dk_X11_parts : ∀ q ∈ kz_X11_parts, rz_ck cX11_parts q = true := List.all_eq_true.mp (by decide +kernel)
set_option maxRecDepth 100000 in
theorem dk_X11_lackAll : ∀ q ∈ kz_X11_lackAll, rz_ck cX11_lackAll q = true := List.all_eq_true.mp (by decide +kernel)
set_option maxRecDepth 100000 in
theorem dk_X11_meet : ∀ q ∈ kz_X11_meet, rz_ck cX11_meet q = true := List.all_eq_true.mp (by decide +kernel)
set_option maxRecDepth 100000 in
theorem dk_X11_join : ∀ q ∈ kz_X11_join, rz_ck cX11_join q = true := List.all_eq_true.mp (by decide +kernel)
set_option maxRecDepth 100000 in
theorem dk_X11_undo : ∀ q ∈ kz_X11_undo, rz_ck cX11_undo q = true := List.all_eq_true.mp (by decide +kernel)
set_option maxRecDepth 100000 in
theorem dk_X11_times : ∀ q ∈ kz_X11_times, rz_ck cX11_times q = true := List.all_eq_true.mp (by decide +kernel)
set_option maxRecDepth 100000 in
theorem dk_X11_floor : ∀ q ∈ kz_X11_floor, rz_ck cX11_floor q = true := List.all_eq_true.mp (by decide +kernel)
set_option maxRecDepth 100000 in
theorem dk_X11_shortOf : ∀ q ∈ kz_X11_shortOf, rz_ck cX11_shortOf q = true := List.all_eq_true.mp (by decide +kernel)
set_option maxRecDepth 100000 in
theorem dk_X11_isTold : ∀ q ∈ kz_X11_isTold, rz_ck cX11_isTold q = true := List.all_eq_true.mp (by decide +kernel)
set_option maxRecDepth 100000 in
theorem dk_X11_isAhead : ∀ q ∈ kz_X11_isAhead, rz_ck cX11_isAhead q = true := List.all_eq_true.mp (by decide +kernel)
set_option maxRecDepth 100000 in
theorem dk_X11_stepsOf : ∀ q ∈ kz_X11_stepsOf, rz_ck cX11_stepsOf q = true := List.all_eq_true.mp (by decide +kernel)
set_option maxRecDepth 100000 in
theorem dk_X11_lacksStep : ∀ q ∈ kz_X11_lacksStep, rz_ck cX11_lacksStep q = true := List.all_eq_true.mp (by decide +kernel)
set_option maxRecDepth 100000 in
theorem dk_X11_stepX : ∀ q ∈ kz_X11_stepX, rz_ck cX11_stepX q = true := List.all_eq_true.mp (by decide +kernel)
set_option maxRecDepth 100000 in
theorem dk_X11_stepY : ∀ q ∈ kz_X11_stepY, rz_ck cX11_stepY q = true := List.all_eq_true.mp (by decide +kernel)
set_option maxRecDepth 100000 in
theorem dk_X11_second : ∀ q ∈ kz_X11_second, rz_ck cX11_second q = true := List.all_eq_true.mp (by decide +kernel)
set_option maxRecDepth 100000 in
theorem dk_X11_steps : ∀ q ∈ kz_X11_steps, rz_ck cX11_steps q = true := List.all_eq_true.mp (by decide +kernel)
set_option maxRecDepth 100000 in
theorem dk_X11_nearest : ∀ q ∈ kz_X11_nearest, rz_ck cX11_nearest q = true := List.all_eq_true.mp (by decide +kernel)
set_option maxRecDepth 100000 in
theorem dk_X11_lacksNear : ∀ q ∈ kz_X11_lacksNear, rz_ck cX11_lacksNear q = true := List.all_eq_true.mp (by decide +kernel)
set_option maxRecDepth 100000 in
theorem dk_X11_nearX : ∀ q ∈ kz_X11_nearX, rz_ck cX11_nearX q = true := List.all_eq_true.mp (by decide +kernel)
set_option maxRecDepth 100000 in
theorem dk_X11_nearY : ∀ q ∈ kz_X11_nearY, rz_ck cX11_nearY q = true := List.all_eq_true.mp (by decide +kernel)
set_option maxRecDepth 100000 in
theorem dk_X11_around : ∀ q ∈ kz_X11_around, rz_ck cX11_around q = true := List.all_eq_true.mp (by decide +kernel)
set_option maxRecDepth 100000 in
theorem dk_X11_corners : ∀ q ∈ kz_X11_corners, rz_ck cX11_corners q = true := List.all_eq_true.mp (by decide +kernel)
set_option maxRecDepth 100000 in
theorem dk_X11_cellOf : ∀ q ∈ kz_X11_cellOf, rz_ck cX11_cellOf q = true := List.all_eq_true.mp (by decide +kernel)
set_option maxRecDepth 100000 in
theorem dk_X11_adds : ∀ q ∈ kz_X11_adds, rz_ck cX11_adds q = true := List.all_eq_true.mp (by decide +kernel)
set_option maxRecDepth 100000 in
theorem dk_X11_addsNumber : ∀ q ∈ kz_X11_addsNumber, rz_ck cX11_addsNumber q = true := List.all_eq_true.mp (by decide +kernel)
set_option maxRecDepth 100000 in
theorem dk_X11_tellCorner : ∀ q ∈ kz_X11_tellCorner, rz_ck cX11_tellCorner q = true := List.all_eq_true.mp (by decide +kernel)
set_option maxRecDepth 100000 in
theorem dk_X11_signAt : ∀ q ∈ kz_X11_signAt, rz_ck cX11_signAt q = true := List.all_eq_true.mp (by decide +kernel)
set_option maxRecDepth 100000 in
theorem dk_X11_fewestOf : ∀ q ∈ kz_X11_fewestOf, rz_ck cX11_fewestOf q = true := List.all_eq_true.mp (by decide +kernel)
set_option maxRecDepth 100000 in
theorem dk_X11_coins : ∀ q ∈ kz_X11_coins, rz_ck cX11_coins q = true := List.all_eq_true.mp (by decide +kernel)
set_option maxRecDepth 100000 in
theorem dk_X11_lacksUpTo : ∀ q ∈ kz_X11_lacksUpTo, rz_ck cX11_lacksUpTo q = true := List.all_eq_true.mp (by decide +kernel)
set_option maxRecDepth 100000 in
theorem dk_X11_lacks_ : ∀ q ∈ kz_X11_lacks_, rz_ck cX11_lacks_ q = true := List.all_eq_true.mp (by decide +kernel)
set_option maxRecDepth 100000 in
theorem dk_X11_lackAt : ∀ q ∈ kz_X11_lackAt, rz_ck cX11_lackAt q = true := List.all_eq_true.mp (by decide +kernel)
set_option maxRecDepth 100000 in
theorem dk_X11_canMake : ∀ q ∈ kz_X11_canMake, rz_ck cX11_canMake q = true := List.all_eq_true.mp (by decide +kernel)
set_option maxRecDepth 100000 in
theorem dk_X11_fewest : ∀ q ∈ kz_X11_fewest, rz_ck cX11_fewest q = true := List.all_eq_true.mp (by decide +kernel)
set_option maxRecDepth 100000 in
theorem dk_X11_ways : ∀ q ∈ kz_X11_ways, rz_ck cX11_ways q = true := List.all_eq_true.mp (by decide +kernel)
set_option maxRecDepth 100000 in
theorem dk_X11_corner : ∀ q ∈ kz_X11_corner, rz_ck cX11_corner q = true := List.all_eq_true.mp (by decide +kernel)
set_option maxRecDepth 100000 in
theorem dk_X11_clear : ∀ q ∈ kz_X11_clear, rz_ck cX11_clear q = true := List.all_eq_true.mp (by decide +kernel)
set_option maxRecDepth 100000 in
theorem dk_X11_after : ∀ q ∈ kz_X11_after, rz_ck cX11_after q = true := List.all_eq_true.mp (by decide +kernel)
set_option maxRecDepth 100000 in
theorem dk_X11_turn : ∀ q ∈ kz_X11_turn, rz_ck cX11_turn q = true := List.all_eq_true.mp (by decide +kernel)
set_option maxRecDepth 100000 in
theorem dk_X11_isOn : ∀ q ∈ kz_X11_isOn, rz_ck cX11_isOn q = true := List.all_eq_true.mp (by decide +kernel)
set_option maxRecDepth 100000 in
theorem dk_X11_doMeet : ∀ q ∈ kz_X11_doMeet, rz_ck cX11_doMeet q = true := List.all_eq_true.mp (by decide +kernel)
set_option maxRecDepth 100000 in
theorem dk_X11_isPolygon : ∀ q ∈ kz_X11_isPolygon, rz_ck cX11_isPolygon q = true := List.all_eq_true.mp (by decide +kernel)
set_option maxRecDepth 100000 in
theorem dk_X11_areaTwice : ∀ q ∈ kz_X11_areaTwice, rz_ck cX11_areaTwice q = true := List.all_eq_true.mp (by decide +kernel)
set_option maxRecDepth 100000 in
theorem dk_X11_close : ∀ q ∈ kz_X11_close, rz_ck cX11_close q = true := List.all_eq_true.mp (by decide +kernel)
set_option maxRecDepth 100000 in
theorem dk_X11_rimIts : ∀ q ∈ kz_X11_rimIts, rz_ck cX11_rimIts q = true := List.all_eq_true.mp (by decide +kernel)
set_option maxRecDepth 100000 in
theorem dk_X11_rim : ∀ q ∈ kz_X11_rim, rz_ck cX11_rim q = true := List.all_eq_true.mp (by decide +kernel)
set_option maxRecDepth 100000 in
theorem dk_X11_isInside : ∀ q ∈ kz_X11_isInside, rz_ck cX11_isInside q = true := List.all_eq_true.mp (by decide +kernel)
set_option maxRecDepth 100000 in
theorem dk_X11_whereIts : ∀ q ∈ kz_X11_whereIts, rz_ck cX11_whereIts q = true := List.all_eq_true.mp (by decide +kernel)
set_option maxRecDepth 100000 in
theorem dk_X11_where : ∀ q ∈ kz_X11_where, rz_ck cX11_where q = true := List.all_eq_true.mp (by decide +kernel)
set_option maxRecDepth 100000 in
theorem dk_X11_within : ∀ q ∈ kz_X11_within, rz_ck cX11_within q = true := List.all_eq_true.mp (by decide +kernel)
set_option maxRecDepth 100000 in
theorem dk_X11_isConvex : ∀ q ∈ kz_X11_isConvex, rz_ck cX11_isConvex q = true := List.all_eq_true.mp (by decide +kernel)
set_option maxRecDepth 100000 in
theorem dk_X11_grown : ∀ q ∈ kz_X11_grown, rz_ck cX11_grown q = true := List.all_eq_true.mp (by decide +kernel)
set_option maxRecDepth 100000 in
theorem dk_X11_isEar : ∀ q ∈ kz_X11_isEar, rz_ck cX11_isEar q = true := List.all_eq_true.mp (by decide +kernel)
set_option maxRecDepth 100000 in
theorem dk_X11_triangleAt : ∀ q ∈ kz_X11_triangleAt, rz_ck cX11_triangleAt q = true := List.all_eq_true.mp (by decide +kernel)
set_option maxRecDepth 100000 in
theorem dk_X11_tiles : ∀ q ∈ kz_X11_tiles, rz_ck cX11_tiles q = true := List.all_eq_true.mp (by decide +kernel)
set_option maxRecDepth 100000 in
theorem dk_X11_seenOf : ∀ q ∈ kz_X11_seenOf, rz_ck cX11_seenOf q = true := List.all_eq_true.mp (by decide +kernel)
set_option maxRecDepth 100000 in
theorem dk_X11_manyOf : ∀ q ∈ kz_X11_manyOf, rz_ck cX11_manyOf q = true := List.all_eq_true.mp (by decide +kernel)
set_option maxRecDepth 100000 in
theorem dk_X11_seen : ∀ q ∈ kz_X11_seen, rz_ck cX11_seen q = true := List.all_eq_true.mp (by decide +kernel)
set_option maxRecDepth 100000 in
theorem dk_X11_seenAt : ∀ q ∈ kz_X11_seenAt, rz_ck cX11_seenAt q = true := List.all_eq_true.mp (by decide +kernel)
set_option maxRecDepth 100000 in
theorem dk_X11_leaps : ∀ q ∈ kz_X11_leaps, rz_ck cX11_leaps q = true := List.all_eq_true.mp (by decide +kernel)
set_option maxRecDepth 100000 in
theorem dk_X11_areRight : ∀ q ∈ kz_X11_areRight, rz_ck cX11_areRight q = true := List.all_eq_true.mp (by decide +kernel)
set_option maxRecDepth 100000 in
theorem dk_X11_termsOf : ∀ q ∈ kz_X11_termsOf, rz_ck cX11_termsOf q = true := List.all_eq_true.mp (by decide +kernel)
set_option maxRecDepth 100000 in
theorem dk_X11_manyTerms : ∀ q ∈ kz_X11_manyTerms, rz_ck cX11_manyTerms q = true := List.all_eq_true.mp (by decide +kernel)
set_option maxRecDepth 100000 in
theorem dk_X11_terms : ∀ q ∈ kz_X11_terms, rz_ck cX11_terms q = true := List.all_eq_true.mp (by decide +kernel)
set_option maxRecDepth 100000 in
theorem dk_X11_termAt : ∀ q ∈ kz_X11_termAt, rz_ck cX11_termAt q = true := List.all_eq_true.mp (by decide +kernel)
set_option maxRecDepth 100000 in
theorem dk_X11_lowest : ∀ q ∈ kz_X11_lowest, rz_ck cX11_lowest q = true := List.all_eq_true.mp (by decide +kernel)
set_option maxRecDepth 100000 in
theorem dk_X11_hullOf : ∀ q ∈ kz_X11_hullOf, rz_ck cX11_hullOf q = true := List.all_eq_true.mp (by decide +kernel)
set_option maxRecDepth 100000 in
theorem dk_X11_manyHull : ∀ q ∈ kz_X11_manyHull, rz_ck cX11_manyHull q = true := List.all_eq_true.mp (by decide +kernel)
set_option maxRecDepth 100000 in
theorem dk_X11_hull : ∀ q ∈ kz_X11_hull, rz_ck cX11_hull q = true := List.all_eq_true.mp (by decide +kernel)
set_option maxRecDepth 100000 in
theorem dk_X11_hullAt : ∀ q ∈ kz_X11_hullAt, rz_ck cX11_hullAt q = true := List.all_eq_true.mp (by decide +kernel)
set_option maxRecDepth 100000 in
theorem dk_X11_held : ∀ q ∈ kz_X11_held, rz_ck cX11_held q = true := List.all_eq_true.mp (by decide +kernel)
set_option maxRecDepth 100000 in
theorem dk_X11_checksum : ∀ q ∈ kz_X11_checksum, rz_ck cX11_checksum q = true := List.all_eq_true.mp (by decide +kernel)
set_option maxRecDepth 100000 in
theorem dk_X11_isSound : ∀ q ∈ kz_X11_isSound, rz_ck cX11_isSound q = true := List.all_eq_true.mp (by decide +kernel)
set_option maxRecDepth 100000 in
theorem dk_J9_floorDiv_7cf53 : ∀ q ∈ kz_J9_floorDiv_7cf53, rz_ck cJ9_floorDiv_7cf53 q = true := List.all_eq_true.mp (by decide +kernel)
set_option maxRecDepth 100000 in
theorem dk_J9_floorDiv_f86c9 : ∀ q ∈ kz_J9_floorDiv_f86c9, rz_ck cJ9_floorDiv_f86c9 q = true := List.all_eq_true.mp (by decide +kernel)
set_option maxRecDepth 100000 in
theorem dk_J9_floorMod_7cf53 : ∀ q ∈ kz_J9_floorMod_7cf53, rz_ck cJ9_floorMod_7cf53 q = true := List.all_eq_true.mp (by decide +kernel)
set_option maxRecDepth 100000 in
theorem dk_J9_floorMod_f86c9 : ∀ q ∈ kz_J9_floorMod_f86c9, rz_ck cJ9_floorMod_f86c9 q = true := List.all_eq_true.mp (by decide +kernel)
set_option maxRecDepth 100000 in
theorem dk_J9_abs_0f7a4 : ∀ q ∈ kz_J9_abs_0f7a4, rz_ck cJ9_abs_0f7a4 q = true := List.all_eq_true.mp (by decide +kernel)
set_option maxRecDepth 100000 in
theorem dk_J9_abs_067f4 : ∀ q ∈ kz_J9_abs_067f4, rz_ck cJ9_abs_067f4 q = true := List.all_eq_true.mp (by decide +kernel)
set_option maxRecDepth 100000 in
theorem dk_J9_max_7cf53 : ∀ q ∈ kz_J9_max_7cf53, rz_ck cJ9_max_7cf53 q = true := List.all_eq_true.mp (by decide +kernel)
set_option maxRecDepth 100000 in
theorem dk_J9_max_f86c9 : ∀ q ∈ kz_J9_max_f86c9, rz_ck cJ9_max_f86c9 q = true := List.all_eq_true.mp (by decide +kernel)
set_option maxRecDepth 100000 in
theorem dk_J9_min_7cf53 : ∀ q ∈ kz_J9_min_7cf53, rz_ck cJ9_min_7cf53 q = true := List.all_eq_true.mp (by decide +kernel)
set_option maxRecDepth 100000 in
theorem dk_J9_min_f86c9 : ∀ q ∈ kz_J9_min_f86c9, rz_ck cJ9_min_f86c9 q = true := List.all_eq_true.mp (by decide +kernel)
set_option maxRecDepth 100000 in
theorem dk_J7_fill_53178 : ∀ q ∈ kz_J7_fill_53178, rz_ck cJ7_fill_53178 q = true := List.all_eq_true.mp (by decide +kernel)
set_option maxRecDepth 100000 in
theorem dk_L_spanned : ∀ q ∈ kz_L_spanned, rz_ck cL_spanned q = true := List.all_eq_true.mp (by decide +kernel)
set_option maxRecDepth 100000 in
theorem dk_L_remainder : ∀ q ∈ kz_L_remainder, rz_ck cL_remainder q = true := List.all_eq_true.mp (by decide +kernel)
set_option maxRecDepth 100000 in
theorem dk_L_nth : ∀ q ∈ kz_L_nth, rz_ck cL_nth q = true := List.all_eq_true.mp (by decide +kernel)
set_option maxRecDepth 100000 in
theorem dk_L_grids : ∀ q ∈ kz_L_grids, rz_ck cL_grids q = true := List.all_eq_true.mp (by decide +kernel)
set_option maxRecDepth 100000 in
theorem dk_L_form : ∀ q ∈ kz_L_form, rz_ck cL_form q = true := List.all_eq_true.mp (by decide +kernel)
set_option maxRecDepth 100000 in
theorem dk_L_has : ∀ q ∈ kz_L_has, rz_ck cL_has q = true := List.all_eq_true.mp (by decide +kernel)
set_option maxRecDepth 100000 in
theorem dk_L_isSame : ∀ q ∈ kz_L_isSame, rz_ck cL_isSame q = true := List.all_eq_true.mp (by decide +kernel)
set_option maxRecDepth 100000 in
theorem dk_L_parts : ∀ q ∈ kz_L_parts, rz_ck cL_parts q = true := List.all_eq_true.mp (by decide +kernel)
set_option maxRecDepth 100000 in
theorem dk_L_meet : ∀ q ∈ kz_L_meet, rz_ck cL_meet q = true := List.all_eq_true.mp (by decide +kernel)
set_option maxRecDepth 100000 in
theorem dk_L_join : ∀ q ∈ kz_L_join, rz_ck cL_join q = true := List.all_eq_true.mp (by decide +kernel)
set_option maxRecDepth 100000 in
theorem dk_L_undo : ∀ q ∈ kz_L_undo, rz_ck cL_undo q = true := List.all_eq_true.mp (by decide +kernel)
set_option maxRecDepth 100000 in
theorem dk_L_stepX : ∀ q ∈ kz_L_stepX, rz_ck cL_stepX q = true := List.all_eq_true.mp (by decide +kernel)
set_option maxRecDepth 100000 in
theorem dk_L_stepY : ∀ q ∈ kz_L_stepY, rz_ck cL_stepY q = true := List.all_eq_true.mp (by decide +kernel)
set_option maxRecDepth 100000 in
theorem dk_L_second : ∀ q ∈ kz_L_second, rz_ck cL_second q = true := List.all_eq_true.mp (by decide +kernel)
set_option maxRecDepth 100000 in
theorem dk_L_steps : ∀ q ∈ kz_L_steps, rz_ck cL_steps q = true := List.all_eq_true.mp (by decide +kernel)
set_option maxRecDepth 100000 in
theorem dk_L_nearX : ∀ q ∈ kz_L_nearX, rz_ck cL_nearX q = true := List.all_eq_true.mp (by decide +kernel)
set_option maxRecDepth 100000 in
theorem dk_L_nearY : ∀ q ∈ kz_L_nearY, rz_ck cL_nearY q = true := List.all_eq_true.mp (by decide +kernel)
set_option maxRecDepth 100000 in
theorem dk_L_corners : ∀ q ∈ kz_L_corners, rz_ck cL_corners q = true := List.all_eq_true.mp (by decide +kernel)
set_option maxRecDepth 100000 in
theorem dk_L_tellCorner : ∀ q ∈ kz_L_tellCorner, rz_ck cL_tellCorner q = true := List.all_eq_true.mp (by decide +kernel)
set_option maxRecDepth 100000 in
theorem dk_L_signAt : ∀ q ∈ kz_L_signAt, rz_ck cL_signAt q = true := List.all_eq_true.mp (by decide +kernel)
set_option maxRecDepth 100000 in
theorem dk_L_coins : ∀ q ∈ kz_L_coins, rz_ck cL_coins q = true := List.all_eq_true.mp (by decide +kernel)
set_option maxRecDepth 100000 in
theorem dk_L_lacks : ∀ q ∈ kz_L_lacks, rz_ck cL_lacks q = true := List.all_eq_true.mp (by decide +kernel)
set_option maxRecDepth 100000 in
theorem dk_L_lackAt : ∀ q ∈ kz_L_lackAt, rz_ck cL_lackAt q = true := List.all_eq_true.mp (by decide +kernel)
set_option maxRecDepth 100000 in
theorem dk_L_canMake : ∀ q ∈ kz_L_canMake, rz_ck cL_canMake q = true := List.all_eq_true.mp (by decide +kernel)
set_option maxRecDepth 100000 in
theorem dk_L_fewest : ∀ q ∈ kz_L_fewest, rz_ck cL_fewest q = true := List.all_eq_true.mp (by decide +kernel)
set_option maxRecDepth 100000 in
theorem dk_L_ways : ∀ q ∈ kz_L_ways, rz_ck cL_ways q = true := List.all_eq_true.mp (by decide +kernel)
set_option maxRecDepth 100000 in
theorem dk_L_corner : ∀ q ∈ kz_L_corner, rz_ck cL_corner q = true := List.all_eq_true.mp (by decide +kernel)
set_option maxRecDepth 100000 in
theorem dk_L_close : ∀ q ∈ kz_L_close, rz_ck cL_close q = true := List.all_eq_true.mp (by decide +kernel)
set_option maxRecDepth 100000 in
theorem dk_L_rim : ∀ q ∈ kz_L_rim, rz_ck cL_rim q = true := List.all_eq_true.mp (by decide +kernel)
set_option maxRecDepth 100000 in
theorem dk_L_within : ∀ q ∈ kz_L_within, rz_ck cL_within q = true := List.all_eq_true.mp (by decide +kernel)
set_option maxRecDepth 100000 in
theorem dk_L_where : ∀ q ∈ kz_L_where, rz_ck cL_where q = true := List.all_eq_true.mp (by decide +kernel)
set_option maxRecDepth 100000 in
theorem dk_L_isConvex : ∀ q ∈ kz_L_isConvex, rz_ck cL_isConvex q = true := List.all_eq_true.mp (by decide +kernel)
set_option maxRecDepth 100000 in
theorem dk_L_grown : ∀ q ∈ kz_L_grown, rz_ck cL_grown q = true := List.all_eq_true.mp (by decide +kernel)
set_option maxRecDepth 100000 in
theorem dk_L_triangleAt : ∀ q ∈ kz_L_triangleAt, rz_ck cL_triangleAt q = true := List.all_eq_true.mp (by decide +kernel)
set_option maxRecDepth 100000 in
theorem dk_L_tiles : ∀ q ∈ kz_L_tiles, rz_ck cL_tiles q = true := List.all_eq_true.mp (by decide +kernel)
set_option maxRecDepth 100000 in
theorem dk_L_seen : ∀ q ∈ kz_L_seen, rz_ck cL_seen q = true := List.all_eq_true.mp (by decide +kernel)
set_option maxRecDepth 100000 in
theorem dk_L_seenAt : ∀ q ∈ kz_L_seenAt, rz_ck cL_seenAt q = true := List.all_eq_true.mp (by decide +kernel)
set_option maxRecDepth 100000 in
theorem dk_L_leaps : ∀ q ∈ kz_L_leaps, rz_ck cL_leaps q = true := List.all_eq_true.mp (by decide +kernel)
set_option maxRecDepth 100000 in
theorem dk_L_terms : ∀ q ∈ kz_L_terms, rz_ck cL_terms q = true := List.all_eq_true.mp (by decide +kernel)
set_option maxRecDepth 100000 in
theorem dk_L_termAt : ∀ q ∈ kz_L_termAt, rz_ck cL_termAt q = true := List.all_eq_true.mp (by decide +kernel)
set_option maxRecDepth 100000 in
theorem dk_L_hull : ∀ q ∈ kz_L_hull, rz_ck cL_hull q = true := List.all_eq_true.mp (by decide +kernel)
set_option maxRecDepth 100000 in
theorem dk_L_hullAt : ∀ q ∈ kz_L_hullAt, rz_ck cL_hullAt q = true := List.all_eq_true.mp (by decide +kernel)
