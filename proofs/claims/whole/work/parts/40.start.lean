/-! part 40: level 2: the start, the switch, the law's loop -/
section RZST
variable {X : rz_X} {d : Nat} {w : rz_W} {nc ns : Nat}
/-- an object's fields, as a function -/
def rz_fo (w : rz_W) (p : Nat) : List Value := match w[p]? with
  | some (.inr (_, fs)) => fs
  | _ => []
theorem pf_fo {ci p k : Nat} {ty : FieldType} {v : Value} {K : rz_W → Option rz_R} (h : w[p]? = some (.inr (ci, rz_fo w p))) (h1 : narrow ty v = v) (h2 : fits ty v = true) (h3 : Nat.blt k (rz_fo w p).length = true) : rz_pf w p ci k ty v K = K (w.set p (.inr (ci, (rz_fo w p).set k v))) := pf_eq h h1 h2 h3
/-- the world behind the constructors -/
def rz_W0 : rz_W := [.inr (10, [.ref 1, .ref 2, .ref 3, .int (Int32.ofInt 0), .ref 4, .ref 5, .ref 9, .ref 12, .ref 14, .ref 18, .ref 26, .ref 29]),
  .inl (.object "Latticeyard$Grid", 8, .inr (.inr (.inr (.inr fun _ => none)))),
  .inl (.int, 10, .inl fun _ => 0),
  .inl (.object "Latticeyard$Grid", 10, .inr (.inr (.inr (.inr fun _ => none)))),
  .inr (0, [.long (Int64.ofInt 1), .long (Int64.ofInt 0), .long (Int64.ofInt 0), .long (Int64.ofInt 1), .long (Int64.ofInt 0), .long (Int64.ofInt 0), .long (Int64.ofInt 0)]),
  .inr (8, [.ref 6, .ref 7, .ref 8, .int (Int32.ofInt 0)]),
  .inl (.long, 20, .inr (.inl fun _ => 0)),
  .inl (.long, 20, .inr (.inl fun _ => 0)),
  .inl (.long, 20, .inr (.inl fun _ => 0)),
  .inr (1, [.int (Int32.ofInt 4), .long (Int64.ofInt 1), .ref 10, .ref 11, .int (Int32.ofInt 0)]),
  .inl (.long, 6, .inr (.inl fun _ => 0)),
  .inl (.long, 6, .inr (.inl fun _ => 0)),
  .inr (9, [.int (Int32.ofInt 0), .ref 13]),
  .inl (.char, 64, .inl fun _ => 0),
  .inr (7, [.int (Int32.ofInt 0), .int (Int32.ofInt 0), .int (Int32.ofInt 0), .ref 15, .ref 16, .ref 17]),
  .inl (.int, 4, .inl fun _ => 0),
  .inl (.int, 2501, .inl fun _ => 0),
  .inl (.int, 2501, .inl fun _ => 0),
  .inr (6, [.int (Int32.ofInt 0), .int (Int32.ofInt 0), .ref 19, .ref 22, .ref 23, .ref 24, .ref 25, .int (Int32.ofInt 0)]),
  .inr (2, [.ref 20, .int (Int32.ofInt 0), .ref 21, .int (Int32.ofInt 0)]),
  .inl (.int, 12, .inl fun _ => 0),
  .inl (.int, 36, .inl fun _ => 0),
  .inl (.int, 12, .inl fun _ => 0),
  .inl (.int, 12, .inl fun _ => 0),
  .inl (.int, 1600, .inl fun _ => 0),
  .inl (.int, 12, .inl fun _ => 0),
  .inr (5, [.ref 27, .ref 28, .int (Int32.ofInt 0)]),
  .inl (.int, 3721, .inl fun _ => 0),
  .inl (.int, 3721, .inl fun _ => 0),
  .inr (4, [.int (Int32.ofInt 0), .ref 30, .ref 31]),
  .inl (.int, 201, .inl fun _ => 0),
  .inl (.int, 201, .inl fun _ => 0),
  .inr (11, [.ref 33, .ref 34, .ref 35, .ref 36, .ref 37, .ref 38, .ref 39, .ref 40, .ref 41, .int 0, .ref 42, .int 0, .ref 43, .int 0, .ref 44, .ref 45, .int 0, .int 0, .int 0, .ref 46, .ref 47]),
  .inl (.boolean, 8, .inl fun _ => 0),
  .inl (.long, 8, .inr (.inl fun _ => 0)),
  .inl (.long, 8, .inr (.inl fun _ => 0)),
  .inl (.long, 8, .inr (.inl fun _ => 0)),
  .inl (.int, 10, .inl fun _ => 0),
  .inl (.boolean, 10, .inl fun _ => 0),
  .inl (.long, 10, .inr (.inl fun _ => 0)),
  .inl (.long, 10, .inr (.inl fun _ => 0)),
  .inl (.long, 10, .inr (.inl fun _ => 0)),
  .inl (.int, 60, .inl fun _ => 0),
  .inl (.int, 4, .inl fun _ => 0),
  .inl (.int, 12, .inl fun _ => 0),
  .inl (.int, 12, .inl fun _ => 0),
  .inl (.int, 3721, .inl fun _ => 0),
  .inl (.int, 3721, .inl fun _ => 0),
  .inl (.long, 1, .inr (.inl fun _ => 0))]
set_option maxRecDepth 100000 in
set_option maxHeartbeats 4000000 in
theorem z_start {l1 l2 l3 l4 l5 l6 : Option Value} (h1 : l1 = none) (h2 : l2 = none) (h3 : l3 = none) (h4 : l4 = none) : rz_G X (d + 30) mz_L_law 0 [some (.retAddr 0), l1, l2, l3, l4, l5, l6] [] [] 0 0 = rz_G X (d + 30) mz_L_law 23 [some (.retAddr 0), some (.ref 0), some (.ref 32), some (.ref 48), some (.int (Int32.ofInt 0)), l5, l6] [] rz_W0 49 22386 := by
  subst h1 h2 h3 h4
  simp (maxSteps := 3000000) (disch := first | exact nl_i | exact nl_r | exact nl_0 | exact nl_n | exact nl_x | exact kd_r | exact kd_n | exact kd_x | exact kd_o | exact cats0 | exact cats1 | exact cats2 | exact cats3 | exact cats4 | exact nr_i | exact nr_l | exact nr_z0 | exact nr_z1 | exact ft_i | exact ft_l | omega | rfl | assumption | (refine i_ne0 ?_ ?_ ?_ <;> omega) | (refine j_ne0 ?_ ?_ ?_ <;> omega) | (refine i_new ?_ ?_ <;> omega)) only [q_L_law_0, q_L_law_3r, q_L_law_4, q_L_law_7, q_L_law_8, q_L_law_11r, q_L_law_12, q_L_law_15, q_L_law_16, q_L_law_17, q_L_law_19, q_L_law_20, q_L_law_21, n_X10_init, q_X10_init_0, q_X10_init_1, q_X10_init_4, q_X10_init_5, q_X10_init_7, q_X10_init_10, q_X10_init_13, q_X10_init_14, q_X10_init_16, q_X10_init_18, q_X10_init_21, q_X10_init_22, q_X10_init_24, q_X10_init_27, q_X10_init_30, q_X10_init_31, q_X10_init_32, q_X10_init_35, q_X10_init_36, q_X10_init_39, q_X10_init_39r, q_X10_init_40, q_X10_init_43, q_X10_init_46, q_X10_init_47, q_X10_init_50, q_X10_init_50r, q_X10_init_51, q_X10_init_54, q_X10_init_57, q_X10_init_58, q_X10_init_61, q_X10_init_61r, q_X10_init_62, q_X10_init_65, q_X10_init_68, q_X10_init_69, q_X10_init_72, q_X10_init_72r, q_X10_init_73, q_X10_init_76, q_X10_init_79, q_X10_init_80, q_X10_init_83, q_X10_init_83r, q_X10_init_84, q_X10_init_87, q_X10_init_90, q_X10_init_91, q_X10_init_94, q_X10_init_94r, q_X10_init_95, q_X10_init_98, q_X10_init_101, q_X10_init_102, q_X10_init_105, q_X10_init_105r, q_X10_init_106, q_X10_init_109, q_X10_init_112, q_X10_init_113, q_X10_init_116, q_X10_init_116r, q_X10_init_117, q_X10_init_120, q_X10_init_123, n_X0_init, q_X0_init_0, q_X0_init_1, q_X0_init_4, q_X0_init_5, q_X0_init_6, q_X0_init_9, q_X0_init_10, q_X0_init_11, q_X0_init_14, q_X0_init_15, q_X0_init_16, q_X0_init_19, q_X0_init_20, q_X0_init_21, q_X0_init_24, q_X0_init_25, q_X0_init_26, q_X0_init_29, q_X0_init_30, q_X0_init_31, q_X0_init_34, q_X0_init_35, q_X0_init_36, q_X0_init_39, n_X1_init, q_X1_init_0, q_X1_init_1, q_X1_init_4, q_X1_init_5, q_X1_init_6, q_X1_init_9, q_X1_init_10, q_X1_init_11, q_X1_init_14, q_X1_init_15, q_X1_init_17, q_X1_init_19, q_X1_init_22, q_X1_init_23, q_X1_init_25, q_X1_init_27, q_X1_init_30, q_X1_init_31, q_X1_init_32, q_X1_init_35, n_X2_init, q_X2_init_0, q_X2_init_1, q_X2_init_4, q_X2_init_5, q_X2_init_7, q_X2_init_9, q_X2_init_12, q_X2_init_13, q_X2_init_14, q_X2_init_17, q_X2_init_18, q_X2_init_20, q_X2_init_22, q_X2_init_25, q_X2_init_26, q_X2_init_27, q_X2_init_30, n_X4_init, q_X4_init_0, q_X4_init_1, q_X4_init_4, q_X4_init_5, q_X4_init_6, q_X4_init_9, q_X4_init_10, q_X4_init_13, q_X4_init_15, q_X4_init_18, q_X4_init_19, q_X4_init_22, q_X4_init_24, q_X4_init_27, n_X5_init, q_X5_init_0, q_X5_init_1, q_X5_init_4, q_X5_init_5, q_X5_init_8, q_X5_init_10, q_X5_init_13, q_X5_init_14, q_X5_init_17, q_X5_init_19, q_X5_init_22, q_X5_init_23, q_X5_init_24, q_X5_init_27, n_X6_init, q_X6_init_0, q_X6_init_1, q_X6_init_4, q_X6_init_5, q_X6_init_6, q_X6_init_9, q_X6_init_10, q_X6_init_11, q_X6_init_14, q_X6_init_15, q_X6_init_18, q_X6_init_18r, q_X6_init_19, q_X6_init_22, q_X6_init_25, q_X6_init_26, q_X6_init_28, q_X6_init_30, q_X6_init_33, q_X6_init_34, q_X6_init_36, q_X6_init_38, q_X6_init_41, q_X6_init_42, q_X6_init_45, q_X6_init_47, q_X6_init_50, q_X6_init_51, q_X6_init_53, q_X6_init_55, q_X6_init_58, q_X6_init_59, q_X6_init_60, q_X6_init_63, n_X7_init, q_X7_init_0, q_X7_init_1, q_X7_init_4, q_X7_init_5, q_X7_init_6, q_X7_init_9, q_X7_init_10, q_X7_init_11, q_X7_init_14, q_X7_init_15, q_X7_init_16, q_X7_init_19, q_X7_init_20, q_X7_init_21, q_X7_init_23, q_X7_init_26, q_X7_init_27, q_X7_init_30, q_X7_init_32, q_X7_init_35, q_X7_init_36, q_X7_init_39, q_X7_init_41, q_X7_init_44, n_X8_init, q_X8_init_0, q_X8_init_1, q_X8_init_4, q_X8_init_5, q_X8_init_7, q_X8_init_9, q_X8_init_12, q_X8_init_13, q_X8_init_15, q_X8_init_17, q_X8_init_20, q_X8_init_21, q_X8_init_23, q_X8_init_25, q_X8_init_28, q_X8_init_29, q_X8_init_30, q_X8_init_33, n_X9_init, q_X9_init_0, q_X9_init_1, q_X9_init_4, q_X9_init_5, q_X9_init_6, q_X9_init_9, q_X9_init_10, q_X9_init_12, q_X9_init_14, q_X9_init_17, n_X11_init, q_X11_init_0, q_X11_init_1, q_X11_init_4, q_X11_init_5, q_X11_init_7, q_X11_init_9, q_X11_init_12, q_X11_init_13, q_X11_init_15, q_X11_init_17, q_X11_init_20, q_X11_init_21, q_X11_init_23, q_X11_init_25, q_X11_init_28, q_X11_init_29, q_X11_init_31, q_X11_init_33, q_X11_init_36, q_X11_init_37, q_X11_init_39, q_X11_init_41, q_X11_init_44, q_X11_init_45, q_X11_init_47, q_X11_init_49, q_X11_init_52, q_X11_init_53, q_X11_init_55, q_X11_init_57, q_X11_init_60, q_X11_init_61, q_X11_init_63, q_X11_init_65, q_X11_init_68, q_X11_init_69, q_X11_init_71, q_X11_init_73, q_X11_init_76, q_X11_init_77, q_X11_init_79, q_X11_init_81, q_X11_init_84, q_X11_init_85, q_X11_init_86, q_X11_init_88, q_X11_init_91, q_X11_init_92, q_X11_init_94, q_X11_init_96, q_X11_init_99, q_X11_init_100, q_X11_init_102, q_X11_init_104, q_X11_init_107, q_X11_init_108, q_X11_init_111, q_X11_init_113, q_X11_init_116, q_X11_init_117, q_X11_init_120, q_X11_init_122, q_X11_init_125, i_add, i_sub, i_mul, i_neg, i_lt, i_le, i_eq, i_tm, i_div, i_j, j_i, j_add, j_sub, j_mul, j_neg, j_lt, j_le, j_eq, j_div, c_lt, c_le, c_gt, c_ge, c_eq, i_nat, rz_k, Nat.add_zero, Nat.zero_add, Nat.add_assoc, Nat.reduceAdd, if_true, if_false, List.nil_append, List.cons_append, List.length_cons, List.length_nil, pf_fo, rz_fo, List.getElem?_cons_zero, List.getElem?_cons_succ, List.set_cons_zero, List.set_cons_succ]
  rfl
theorem sw_0 {loc : rz_L} {r : List Value} : rz_G X d mz_L_law 40 loc (.int (Int32.ofInt 0) :: r) w nc ns = rz_G X d mz_L_law 240 loc r w nc ns := g_sw (len := 200) (o := 200) rfl (ks_L_law_0 rfl rfl) (by decide) rfl
theorem sw_1 {loc : rz_L} {r : List Value} : rz_G X d mz_L_law 40 loc (.int (Int32.ofInt 1) :: r) w nc ns = rz_G X d mz_L_law 344 loc r w nc ns := g_sw (len := 200) (o := 304) rfl (ks_L_law_0 rfl rfl) (by decide) rfl
theorem sw_2 {loc : rz_L} {r : List Value} : rz_G X d mz_L_law 40 loc (.int (Int32.ofInt 2) :: r) w nc ns = rz_G X d mz_L_law 436 loc r w nc ns := g_sw (len := 200) (o := 396) rfl (ks_L_law_0 rfl rfl) (by decide) rfl
theorem sw_3 {loc : rz_L} {r : List Value} : rz_G X d mz_L_law 40 loc (.int (Int32.ofInt 3) :: r) w nc ns = rz_G X d mz_L_law 516 loc r w nc ns := g_sw (len := 200) (o := 476) rfl (ks_L_law_0 rfl rfl) (by decide) rfl
theorem sw_4 {loc : rz_L} {r : List Value} : rz_G X d mz_L_law 40 loc (.int (Int32.ofInt 4) :: r) w nc ns = rz_G X d mz_L_law 572 loc r w nc ns := g_sw (len := 200) (o := 532) rfl (ks_L_law_0 rfl rfl) (by decide) rfl
theorem sw_5 {loc : rz_L} {r : List Value} : rz_G X d mz_L_law 40 loc (.int (Int32.ofInt 5) :: r) w nc ns = rz_G X d mz_L_law 642 loc r w nc ns := g_sw (len := 200) (o := 602) rfl (ks_L_law_0 rfl rfl) (by decide) rfl
theorem sw_6 {loc : rz_L} {r : List Value} : rz_G X d mz_L_law 40 loc (.int (Int32.ofInt 6) :: r) w nc ns = rz_G X d mz_L_law 729 loc r w nc ns := g_sw (len := 200) (o := 689) rfl (ks_L_law_0 rfl rfl) (by decide) rfl
theorem sw_7 {loc : rz_L} {r : List Value} : rz_G X d mz_L_law 40 loc (.int (Int32.ofInt 7) :: r) w nc ns = rz_G X d mz_L_law 804 loc r w nc ns := g_sw (len := 200) (o := 764) rfl (ks_L_law_0 rfl rfl) (by decide) rfl
theorem sw_8 {loc : rz_L} {r : List Value} : rz_G X d mz_L_law 40 loc (.int (Int32.ofInt 8) :: r) w nc ns = rz_G X d mz_L_law 872 loc r w nc ns := g_sw (len := 200) (o := 832) rfl (ks_L_law_0 rfl rfl) (by decide) rfl
theorem sw_9 {loc : rz_L} {r : List Value} : rz_G X d mz_L_law 40 loc (.int (Int32.ofInt 9) :: r) w nc ns = rz_G X d mz_L_law 952 loc r w nc ns := g_sw (len := 200) (o := 912) rfl (ks_L_law_0 rfl rfl) (by decide) rfl
theorem sw_10 {loc : rz_L} {r : List Value} : rz_G X d mz_L_law 40 loc (.int (Int32.ofInt 10) :: r) w nc ns = rz_G X d mz_L_law 1032 loc r w nc ns := g_sw (len := 200) (o := 992) rfl (ks_L_law_0 rfl rfl) (by decide) rfl
theorem sw_11 {loc : rz_L} {r : List Value} : rz_G X d mz_L_law 40 loc (.int (Int32.ofInt 11) :: r) w nc ns = rz_G X d mz_L_law 1076 loc r w nc ns := g_sw (len := 200) (o := 1036) rfl (ks_L_law_0 rfl rfl) (by decide) rfl
theorem sw_12 {loc : rz_L} {r : List Value} : rz_G X d mz_L_law 40 loc (.int (Int32.ofInt 12) :: r) w nc ns = rz_G X d mz_L_law 1144 loc r w nc ns := g_sw (len := 200) (o := 1104) rfl (ks_L_law_0 rfl rfl) (by decide) rfl
theorem sw_13 {loc : rz_L} {r : List Value} : rz_G X d mz_L_law 40 loc (.int (Int32.ofInt 13) :: r) w nc ns = rz_G X d mz_L_law 1212 loc r w nc ns := g_sw (len := 200) (o := 1172) rfl (ks_L_law_0 rfl rfl) (by decide) rfl
theorem sw_14 {loc : rz_L} {r : List Value} : rz_G X d mz_L_law 40 loc (.int (Int32.ofInt 14) :: r) w nc ns = rz_G X d mz_L_law 1268 loc r w nc ns := g_sw (len := 200) (o := 1228) rfl (ks_L_law_0 rfl rfl) (by decide) rfl
theorem sw_15 {loc : rz_L} {r : List Value} : rz_G X d mz_L_law 40 loc (.int (Int32.ofInt 15) :: r) w nc ns = rz_G X d mz_L_law 1336 loc r w nc ns := g_sw (len := 200) (o := 1296) rfl (ks_L_law_0 rfl rfl) (by decide) rfl
theorem sw_16 {loc : rz_L} {r : List Value} : rz_G X d mz_L_law 40 loc (.int (Int32.ofInt 16) :: r) w nc ns = rz_G X d mz_L_law 1416 loc r w nc ns := g_sw (len := 200) (o := 1376) rfl (ks_L_law_0 rfl rfl) (by decide) rfl
theorem sw_17 {loc : rz_L} {r : List Value} : rz_G X d mz_L_law 40 loc (.int (Int32.ofInt 17) :: r) w nc ns = rz_G X d mz_L_law 1496 loc r w nc ns := g_sw (len := 200) (o := 1456) rfl (ks_L_law_0 rfl rfl) (by decide) rfl
theorem sw_18 {loc : rz_L} {r : List Value} : rz_G X d mz_L_law 40 loc (.int (Int32.ofInt 18) :: r) w nc ns = rz_G X d mz_L_law 1552 loc r w nc ns := g_sw (len := 200) (o := 1512) rfl (ks_L_law_0 rfl rfl) (by decide) rfl
theorem sw_19 {loc : rz_L} {r : List Value} : rz_G X d mz_L_law 40 loc (.int (Int32.ofInt 19) :: r) w nc ns = rz_G X d mz_L_law 1648 loc r w nc ns := g_sw (len := 200) (o := 1608) rfl (ks_L_law_0 rfl rfl) (by decide) rfl
theorem sw_20 {loc : rz_L} {r : List Value} : rz_G X d mz_L_law 40 loc (.int (Int32.ofInt 20) :: r) w nc ns = rz_G X d mz_L_law 1704 loc r w nc ns := g_sw (len := 200) (o := 1664) rfl (ks_L_law_0 rfl rfl) (by decide) rfl
theorem sw_21 {loc : rz_L} {r : List Value} : rz_G X d mz_L_law 40 loc (.int (Int32.ofInt 21) :: r) w nc ns = rz_G X d mz_L_law 1796 loc r w nc ns := g_sw (len := 200) (o := 1756) rfl (ks_L_law_0 rfl rfl) (by decide) rfl
theorem sw_22 {loc : rz_L} {r : List Value} : rz_G X d mz_L_law 40 loc (.int (Int32.ofInt 22) :: r) w nc ns = rz_G X d mz_L_law 1840 loc r w nc ns := g_sw (len := 200) (o := 1800) rfl (ks_L_law_0 rfl rfl) (by decide) rfl
theorem sw_23 {loc : rz_L} {r : List Value} : rz_G X d mz_L_law 40 loc (.int (Int32.ofInt 23) :: r) w nc ns = rz_G X d mz_L_law 1896 loc r w nc ns := g_sw (len := 200) (o := 1856) rfl (ks_L_law_0 rfl rfl) (by decide) rfl
theorem sw_24 {loc : rz_L} {r : List Value} : rz_G X d mz_L_law 40 loc (.int (Int32.ofInt 24) :: r) w nc ns = rz_G X d mz_L_law 1959 loc r w nc ns := g_sw (len := 200) (o := 1919) rfl (ks_L_law_0 rfl rfl) (by decide) rfl
theorem sw_25 {loc : rz_L} {r : List Value} : rz_G X d mz_L_law 40 loc (.int (Int32.ofInt 25) :: r) w nc ns = rz_G X d mz_L_law 2015 loc r w nc ns := g_sw (len := 200) (o := 1975) rfl (ks_L_law_0 rfl rfl) (by decide) rfl
theorem sw_26 {loc : rz_L} {r : List Value} : rz_G X d mz_L_law 40 loc (.int (Int32.ofInt 26) :: r) w nc ns = rz_G X d mz_L_law 2071 loc r w nc ns := g_sw (len := 200) (o := 2031) rfl (ks_L_law_0 rfl rfl) (by decide) rfl
theorem sw_27 {loc : rz_L} {r : List Value} : rz_G X d mz_L_law 40 loc (.int (Int32.ofInt 27) :: r) w nc ns = rz_G X d mz_L_law 2139 loc r w nc ns := g_sw (len := 200) (o := 2099) rfl (ks_L_law_0 rfl rfl) (by decide) rfl
theorem sw_28 {loc : rz_L} {r : List Value} : rz_G X d mz_L_law 40 loc (.int (Int32.ofInt 28) :: r) w nc ns = rz_G X d mz_L_law 2152 loc r w nc ns := g_sw (len := 200) (o := 2112) rfl (ks_L_law_0 rfl rfl) (by decide) rfl
theorem sw_29 {loc : rz_L} {r : List Value} : rz_G X d mz_L_law 40 loc (.int (Int32.ofInt 29) :: r) w nc ns = rz_G X d mz_L_law 2196 loc r w nc ns := g_sw (len := 200) (o := 2156) rfl (ks_L_law_0 rfl rfl) (by decide) rfl
theorem sw_30 {loc : rz_L} {r : List Value} : rz_G X d mz_L_law 40 loc (.int (Int32.ofInt 30) :: r) w nc ns = rz_G X d mz_L_law 2240 loc r w nc ns := g_sw (len := 200) (o := 2200) rfl (ks_L_law_0 rfl rfl) (by decide) rfl
theorem sw_31 {loc : rz_L} {r : List Value} : rz_G X d mz_L_law 40 loc (.int (Int32.ofInt 31) :: r) w nc ns = rz_G X d mz_L_law 2284 loc r w nc ns := g_sw (len := 200) (o := 2244) rfl (ks_L_law_0 rfl rfl) (by decide) rfl
theorem sw_32 {loc : rz_L} {r : List Value} : rz_G X d mz_L_law 40 loc (.int (Int32.ofInt 32) :: r) w nc ns = rz_G X d mz_L_law 2352 loc r w nc ns := g_sw (len := 200) (o := 2312) rfl (ks_L_law_0 rfl rfl) (by decide) rfl
theorem sw_33 {loc : rz_L} {r : List Value} : rz_G X d mz_L_law 40 loc (.int (Int32.ofInt 33) :: r) w nc ns = rz_G X d mz_L_law 2403 loc r w nc ns := g_sw (len := 200) (o := 2363) rfl (ks_L_law_0 rfl rfl) (by decide) rfl
theorem sw_34 {loc : rz_L} {r : List Value} : rz_G X d mz_L_law 40 loc (.int (Int32.ofInt 34) :: r) w nc ns = rz_G X d mz_L_law 2459 loc r w nc ns := g_sw (len := 200) (o := 2419) rfl (ks_L_law_0 rfl rfl) (by decide) rfl
theorem sw_35 {loc : rz_L} {r : List Value} : rz_G X d mz_L_law 40 loc (.int (Int32.ofInt 35) :: r) w nc ns = rz_G X d mz_L_law 2527 loc r w nc ns := g_sw (len := 200) (o := 2487) rfl (ks_L_law_0 rfl rfl) (by decide) rfl
theorem sw_36 {loc : rz_L} {r : List Value} : rz_G X d mz_L_law 40 loc (.int (Int32.ofInt 36) :: r) w nc ns = rz_G X d mz_L_law 2590 loc r w nc ns := g_sw (len := 200) (o := 2550) rfl (ks_L_law_0 rfl rfl) (by decide) rfl
theorem sw_37 {loc : rz_L} {r : List Value} : rz_G X d mz_L_law 40 loc (.int (Int32.ofInt 37) :: r) w nc ns = rz_G X d mz_L_law 2646 loc r w nc ns := g_sw (len := 200) (o := 2606) rfl (ks_L_law_0 rfl rfl) (by decide) rfl
theorem sw_38 {loc : rz_L} {r : List Value} : rz_G X d mz_L_law 40 loc (.int (Int32.ofInt 38) :: r) w nc ns = rz_G X d mz_L_law 2714 loc r w nc ns := g_sw (len := 200) (o := 2674) rfl (ks_L_law_0 rfl rfl) (by decide) rfl
theorem sw_39 {loc : rz_L} {r : List Value} : rz_G X d mz_L_law 40 loc (.int (Int32.ofInt 39) :: r) w nc ns = rz_G X d mz_L_law 2806 loc r w nc ns := g_sw (len := 200) (o := 2766) rfl (ks_L_law_0 rfl rfl) (by decide) rfl
theorem sw_40 {loc : rz_L} {r : List Value} : rz_G X d mz_L_law 40 loc (.int (Int32.ofInt 40) :: r) w nc ns = rz_G X d mz_L_law 2874 loc r w nc ns := g_sw (len := 200) (o := 2834) rfl (ks_L_law_0 rfl rfl) (by decide) rfl
theorem sw_41 {loc : rz_L} {r : List Value} : rz_G X d mz_L_law 40 loc (.int (Int32.ofInt 41) :: r) w nc ns = rz_G X d mz_L_law 2954 loc r w nc ns := g_sw (len := 200) (o := 2914) rfl (ks_L_law_0 rfl rfl) (by decide) rfl
theorem sw_42 {loc : rz_L} {r : List Value} : rz_G X d mz_L_law 40 loc (.int (Int32.ofInt 42) :: r) w nc ns = rz_G X d mz_L_law 3022 loc r w nc ns := g_sw (len := 200) (o := 2982) rfl (ks_L_law_0 rfl rfl) (by decide) rfl
theorem sw_43 {loc : rz_L} {r : List Value} : rz_G X d mz_L_law 40 loc (.int (Int32.ofInt 43) :: r) w nc ns = rz_G X d mz_L_law 3102 loc r w nc ns := g_sw (len := 200) (o := 3062) rfl (ks_L_law_0 rfl rfl) (by decide) rfl
theorem sw_44 {loc : rz_L} {r : List Value} : rz_G X d mz_L_law 40 loc (.int (Int32.ofInt 44) :: r) w nc ns = rz_G X d mz_L_law 3115 loc r w nc ns := g_sw (len := 200) (o := 3075) rfl (ks_L_law_0 rfl rfl) (by decide) rfl
theorem sw_45 {loc : rz_L} {r : List Value} : rz_G X d mz_L_law 40 loc (.int (Int32.ofInt 45) :: r) w nc ns = rz_G X d mz_L_law 3129 loc r w nc ns := g_sw (len := 200) (o := 3089) rfl (ks_L_law_0 rfl rfl) (by decide) rfl
theorem sw_d {loc : rz_L} {r : List Value} {x : Int32} (h : 45 < x.toInt) : rz_G X d mz_L_law 40 loc (.int x :: r) w nc ns = rz_G X d mz_L_law 3142 loc r w nc ns := g_swd (len := 200) (dd := 3102) rfl (ks_L_law_0 rfl rfl) (.inr h)
theorem z_63 (x : Int32) : ∃ v : Nat, v ≤ 63 ∧ x &&& Int32.ofInt 63 = Int32.ofInt v := by
  refine ⟨(x.toBitVec &&& 63#32).toNat, ?_, ?_⟩
  · rw [BitVec.toNat_and]
    exact Nat.and_le_right
  · apply Int32.toBitVec_inj.1
    rw [Int32.toBitVec_and, Int32.toBitVec_ofInt, Int32.toBitVec_ofInt, BitVec.ofInt_natCast, BitVec.ofNat_toNat, BitVec.setWidth_eq]
    rfl
/-- the first rows of all cases -/
def rz_cs : List Nat := [240, 344, 436, 516, 572, 642, 729, 804, 872, 952, 1032, 1076, 1144, 1212, 1268, 1336, 1416, 1496, 1552, 1648, 1704, 1796, 1840, 1896, 1959, 2015, 2071, 2139, 2152, 2196, 2240, 2284, 2352, 2403, 2459, 2527, 2590, 2646, 2714, 2806, 2874, 2954, 3022, 3102, 3115, 3129]
/-- the law's loop, when every case keeps the invariant -/
theorem z_loop {L : Nat} {xs : Nat → Int32} (hX : X 0 = some (L, xs)) (hL : L ≤ 3072) (H : ∀ (i : Nat) (w : rz_W), i + 5 < L → v_inv w → ∀ pc, pc ∈ rz_cs → rz_way X d pc i w) (n : Nat) : ∀ (i : Nat) (w : rz_W) (l5 l6 : Option Value) (nc ns : Nat), v_inv w → i ≤ 3072 → L ≤ i + 6 * n → ∃ (w' : rz_W) (c s : Nat), rz_G X (d + 30) mz_L_law 23 [some (.retAddr 0), some (.ref 0), some (.ref 32), some (.ref 48), some (.int (Int32.ofInt i)), l5, l6] [] w nc ns = some (.inl (some (.int 1)), w', nc + c, ns + s) ∧ c ≤ 1100 * n ∧ s ≤ 14000 * n := by
  have hX' : ∀ (K : Int32 → Option rz_R), rz_lx X 0 K = K (Int32.ofInt L) := by
    intro K
    unfold rz_lx
    rw [hX]
    dsimp only
    rw [Int32.ofInt_eq_ofNat]
  have hend : ∀ (i : Nat) (w : rz_W) (l5 l6 : Option Value) (nc ns : Nat), i ≤ 3072 → L ≤ i + 5 → rz_G X (d + 30) mz_L_law 23 [some (.retAddr 0), some (.ref 0), some (.ref 32), some (.ref 48), some (.int (Int32.ofInt i)), l5, l6] [] w nc ns = some (.inl (some (.int 1)), w, nc, ns) := by
    intro i w l5 l6 nc ns h1 h2
    simp (disch := first | exact nl_i | exact nl_r | exact nl_0 | exact nl_n | exact nl_x | exact kd_r | exact kd_n | exact kd_x | exact kd_o | exact cats0 | exact cats1 | exact cats2 | exact cats3 | exact cats4 | exact nr_i | exact nr_l | exact nr_z0 | exact nr_z1 | exact ft_i | exact ft_l | omega | rfl | assumption | (refine i_ne0 ?_ ?_ ?_ <;> omega) | (refine j_ne0 ?_ ?_ ?_ <;> omega) | (refine i_new ?_ ?_ <;> omega)) only [q_L_law_23, q_L_law_25, q_L_law_26x, q_L_law_27, q_L_law_29, q_L_law_30, q_L_law_3148, q_L_law_3149, i_add, i_sub, i_mul, i_neg, i_lt, i_le, i_eq, i_tm, i_div, i_j, j_i, j_add, j_sub, j_mul, j_neg, j_lt, j_le, j_eq, j_div, c_lt, c_le, c_gt, c_ge, c_eq, i_nat, rz_k, Nat.add_zero, Nat.zero_add, Nat.add_assoc, Nat.reduceAdd, if_true, if_false, hX']
    rw [if_pos (by omega)]
    rfl
  induction n with
  | zero => intro i w l5 l6 nc ns hv hi hn; exact ⟨w, 0, 0, hend i w l5 l6 nc ns hi (by omega), by omega, by omega⟩
  | succ n ih =>
    intro i w l5 l6 nc ns hv hi hn
    by_cases hc : L ≤ i + 5
    · exact ⟨w, 0, 0, hend i w l5 l6 nc ns hi hc, by omega, by omega⟩
    · obtain ⟨v, hv63, ev⟩ := z_63 (xs i)
      have e1 : rz_G X (d + 30) mz_L_law 23 [some (.retAddr 0), some (.ref 0), some (.ref 32), some (.ref 48), some (.int (Int32.ofInt i)), l5, l6] [] w nc ns = rz_G X (d + 30) mz_L_law 40 [some (.retAddr 0), some (.ref 0), some (.ref 32), some (.ref 48), some (.int (Int32.ofInt i)), l5, l6] [.int (Int32.ofInt v)] w nc ns := by
        simp (disch := first | exact nl_i | exact nl_r | exact nl_0 | exact nl_n | exact nl_x | exact kd_r | exact kd_n | exact kd_x | exact kd_o | exact cats0 | exact cats1 | exact cats2 | exact cats3 | exact cats4 | exact nr_i | exact nr_l | exact nr_z0 | exact nr_z1 | exact ft_i | exact ft_l | omega | rfl | assumption | (refine i_ne0 ?_ ?_ ?_ <;> omega) | (refine j_ne0 ?_ ?_ ?_ <;> omega) | (refine i_new ?_ ?_ <;> omega)) only [q_L_law_23, q_L_law_25, q_L_law_26x, q_L_law_27, q_L_law_29, q_L_law_30, q_L_law_33, q_L_law_34, q_L_law_36x, q_L_law_37, q_L_law_39, i_add, i_sub, i_mul, i_neg, i_lt, i_le, i_eq, i_tm, i_div, i_j, j_i, j_add, j_sub, j_mul, j_neg, j_lt, j_le, j_eq, j_div, c_lt, c_le, c_gt, c_ge, c_eq, i_nat, rz_k, Nat.add_zero, Nat.zero_add, Nat.add_assoc, Nat.reduceAdd, if_true, if_false, hX', ax_eq hX, Int.toNat_natCast, ev]
        rw [if_neg (by omega)]
      have e2 : ∃ (w' : rz_W) (c s : Nat) (m5 m6 : Option Value), rz_G X (d + 30) mz_L_law 40 [some (.retAddr 0), some (.ref 0), some (.ref 32), some (.ref 48), some (.int (Int32.ofInt i)), l5, l6] [.int (Int32.ofInt v)] w nc ns = rz_G X (d + 30) mz_L_law 3142 [some (.retAddr 0), some (.ref 0), some (.ref 32), some (.ref 48), some (.int (Int32.ofInt i)), m5, m6] [] w' (nc + c) (ns + s) ∧ v_inv w' ∧ c ≤ 1100 ∧ s ≤ 14000 := by
        have hw := H i w (by omega) hv
        by_cases hk : v ≤ 45
        · have : ∃ pc, pc ∈ rz_cs ∧ rz_G X (d + 30) mz_L_law 40 [some (.retAddr 0), some (.ref 0), some (.ref 32), some (.ref 48), some (.int (Int32.ofInt i)), l5, l6] [.int (Int32.ofInt v)] w nc ns = rz_G X (d + 30) mz_L_law pc [some (.retAddr 0), some (.ref 0), some (.ref 32), some (.ref 48), some (.int (Int32.ofInt i)), l5, l6] [] w nc ns := by
            rcases v with _ | _ | _ | _ | _ | _ | _ | _ | _ | _ | _ | _ | _ | _ | _ | _ | _ | _ | _ | _ | _ | _ | _ | _ | _ | _ | _ | _ | _ | _ | _ | _ | _ | _ | _ | _ | _ | _ | _ | _ | _ | _ | _ | _ | _ | _ | _
            · exact ⟨240, by decide, sw_0⟩
            · exact ⟨344, by decide, sw_1⟩
            · exact ⟨436, by decide, sw_2⟩
            · exact ⟨516, by decide, sw_3⟩
            · exact ⟨572, by decide, sw_4⟩
            · exact ⟨642, by decide, sw_5⟩
            · exact ⟨729, by decide, sw_6⟩
            · exact ⟨804, by decide, sw_7⟩
            · exact ⟨872, by decide, sw_8⟩
            · exact ⟨952, by decide, sw_9⟩
            · exact ⟨1032, by decide, sw_10⟩
            · exact ⟨1076, by decide, sw_11⟩
            · exact ⟨1144, by decide, sw_12⟩
            · exact ⟨1212, by decide, sw_13⟩
            · exact ⟨1268, by decide, sw_14⟩
            · exact ⟨1336, by decide, sw_15⟩
            · exact ⟨1416, by decide, sw_16⟩
            · exact ⟨1496, by decide, sw_17⟩
            · exact ⟨1552, by decide, sw_18⟩
            · exact ⟨1648, by decide, sw_19⟩
            · exact ⟨1704, by decide, sw_20⟩
            · exact ⟨1796, by decide, sw_21⟩
            · exact ⟨1840, by decide, sw_22⟩
            · exact ⟨1896, by decide, sw_23⟩
            · exact ⟨1959, by decide, sw_24⟩
            · exact ⟨2015, by decide, sw_25⟩
            · exact ⟨2071, by decide, sw_26⟩
            · exact ⟨2139, by decide, sw_27⟩
            · exact ⟨2152, by decide, sw_28⟩
            · exact ⟨2196, by decide, sw_29⟩
            · exact ⟨2240, by decide, sw_30⟩
            · exact ⟨2284, by decide, sw_31⟩
            · exact ⟨2352, by decide, sw_32⟩
            · exact ⟨2403, by decide, sw_33⟩
            · exact ⟨2459, by decide, sw_34⟩
            · exact ⟨2527, by decide, sw_35⟩
            · exact ⟨2590, by decide, sw_36⟩
            · exact ⟨2646, by decide, sw_37⟩
            · exact ⟨2714, by decide, sw_38⟩
            · exact ⟨2806, by decide, sw_39⟩
            · exact ⟨2874, by decide, sw_40⟩
            · exact ⟨2954, by decide, sw_41⟩
            · exact ⟨3022, by decide, sw_42⟩
            · exact ⟨3102, by decide, sw_43⟩
            · exact ⟨3115, by decide, sw_44⟩
            · exact ⟨3129, by decide, sw_45⟩
            · omega
          obtain ⟨pc, hpc, hg⟩ := this
          obtain ⟨w', c, s, m5, m6, h1, h2⟩ := hw pc hpc l5 l6 nc ns
          exact ⟨w', c, s, m5, m6, hg.trans h1, h2⟩
        · refine ⟨w, 0, 0, l5, l6, ?_, hv, by omega, by omega⟩
          exact sw_d (by rw [i_to (by omega) (by omega)]; omega)
      obtain ⟨w', c, s, m5, m6, h1, h2, h3, h4⟩ := e2
      obtain ⟨w2, c2, s2, g1, g2, g3⟩ := ih (i + 6) w' m5 m6 (nc + c) (ns + s) h2 (by omega) (by omega)
      refine ⟨w2, c + c2, s + s2, ?_, by omega, by omega⟩
      rw [e1, h1]
      simp (disch := first | exact nl_i | exact nl_r | exact nl_0 | exact nl_n | exact nl_x | exact kd_r | exact kd_n | exact kd_x | exact kd_o | exact cats0 | exact cats1 | exact cats2 | exact cats3 | exact cats4 | exact nr_i | exact nr_l | exact nr_z0 | exact nr_z1 | exact ft_i | exact ft_l | omega | rfl | assumption | (refine i_ne0 ?_ ?_ ?_ <;> omega) | (refine j_ne0 ?_ ?_ ?_ <;> omega) | (refine i_new ?_ ?_ <;> omega)) only [q_L_law_3142, q_L_law_3145, i_add, i_sub, i_mul, i_neg, i_lt, i_le, i_eq, i_tm, i_div, i_j, j_i, j_add, j_sub, j_mul, j_neg, j_lt, j_le, j_eq, j_div, c_lt, c_le, c_gt, c_ge, c_eq, i_nat, rz_k, Nat.add_zero, Nat.zero_add, Nat.add_assoc, Nat.reduceAdd, if_true, if_false]
      have : ((i : Int) + 6) = ((i + 6 : Nat) : Int) := by omega
      rw [this, g1, Nat.add_assoc, Nat.add_assoc]
/-- the invariant holds behind the constructors -/
theorem v_inv0 : v_inv rz_W0 := by
  refine ⟨0, 0, 0, 0, 0, 0, rfl, rfl, ?_, ?_, ?_, ?_, ?_⟩
  · exact ⟨_, _, _, _, _, _, _, _, _, _, _, _, ⟨rfl, rfl, rfl, rfl, rfl, rfl, rfl, rfl, rfl, rfl, rfl, rfl⟩, by omega, fun i _ => rfl, fun k h => by omega⟩
  · exact ⟨_, _, rfl, rfl, rfl, by omega, fun k h => by omega⟩
  · exact ⟨_, _, _, _, 0, 0, fun _ => 0, rfl, rfl, rfl, rfl, rfl, .inl rfl⟩
  · exact ⟨fun _ => 0, fun _ => 0, _, _, _, _, _, _, _, _, _, _, _, ⟨rfl, rfl, rfl, rfl, rfl, rfl, rfl, rfl, rfl, rfl⟩, by omega, fun k => ⟨(by show ((-20 : Int) ≤ 0 ∧ (0 : Int) ≤ 20) ∧ ((-20 : Int) ≤ 0 ∧ (0 : Int) ≤ 20); omega), fun h => by omega⟩, .inl rfl⟩
  · exact ⟨⟨_, _, _, _, _, _, _, rfl⟩, ⟨_, _, _, _, rfl, rfl, rfl, rfl⟩, ⟨_, _, _, _, _, rfl, rfl, rfl⟩, ⟨_, _, _, rfl, rfl, rfl⟩, ⟨_, _, _, rfl, rfl, rfl⟩, ⟨_, _, rfl, rfl⟩, _, rfl⟩
/-- what is left: each case keeps the invariant -/
theorem rz_pure_of (H : ∀ (L : Nat) (xs : Nat → Int32) (i : Nat) (w : rz_W), L ≤ 3072 → i + 5 < L → v_inv w → ∀ pc, pc ∈ rz_cs → rz_way (rz_X0 L xs) 0 pc i w) : rz_PURE := by
  intro L xs hL
  obtain ⟨w', c, s, h1, h2, h3⟩ := z_loop (X := rz_X0 L xs) (d := 0) rfl hL (fun i w hi hv => H L xs i w hL hi hv) 512 0 rz_W0 none none 49 22386 v_inv0 (by omega) (by omega)
  refine ⟨30, w', 49 + c, 22386 + s, by omega, by omega, by omega, ?_⟩
  have := z_start (X := rz_X0 L xs) (d := 0) (l5 := none) (l6 := none) rfl rfl rfl rfl
  exact this.trans h1
end RZST
