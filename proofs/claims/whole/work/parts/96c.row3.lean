/-! part 96c: level 2: the first twenty steps: the class's listSteps -/
section RZSV
variable {X : rz_X} {d : Nat} {w : rz_W} {nc ns : Nat} {kp tl kd ty cl th : Int} {f g h : Int64}
theorem zt_c_bd {x y u v i j : Int} (hx : x.natAbs ≤ 1500000 ∧ y.natAbs ≤ 1500000 ∧ u.natAbs ≤ 1500000 ∧ v.natAbs ≤ 1500000) (hi : -24 ≤ i ∧ i ≤ 24) (hj : -24 ≤ j ∧ j ≤ 24) : (zt_c x y u v i j).1.natAbs ≤ 100000000 ∧ (zt_c x y u v i j).2.natAbs ≤ 100000000 := by
  have n1 := z_nmul (a := i) (b := x) (M := 24) (by omega) hx.1
  have n2 := z_nmul (a := j) (b := u) (M := 24) (by omega) hx.2.2.1
  have n3 := z_nmul (a := i) (b := y) (M := 24) (by omega) hx.2.1
  have n4 := z_nmul (a := j) (b := v) (M := 24) (by omega) hx.2.2.2
  unfold zt_c
  dsimp only
  omega
theorem l_fill1 {x y u v : Int} (hD : x * v - y * u ≠ 0) (hx : x.natAbs ≤ 1500000 ∧ y.natAbs ≤ 1500000 ∧ u.natAbs ≤ 1500000 ∧ v.natAbs ≤ 1500000) {l3 : Option Value} (n : Nat) : ∀ (w : rz_W) (r : List (Int × Int)) (i : Nat), i + n = 25 → 1 ≤ i → v_ob w 4 0 [.long (Int64.ofInt x), .long (Int64.ofInt y), .long (Int64.ofInt u), .long (Int64.ofInt v), .long f, .long g, .long h] → v_st w r → zt_I (zt_A x y u v i 0) r → r.length = min 20 (i - 1) → zt_bd r → ∃ w' r', rz_G X (d + 2) mz_X8_fill 7 [some (.ref 5), some (.ref 4), some (.int (Int32.ofInt (i : Int))), l3] [] w nc ns = rz_G X (d + 2) mz_X8_fill 37 [some (.ref 5), some (.ref 4), some (.int (Int32.ofInt 25)), l3] [] w' nc ns ∧ rz_fr [5, 6, 7, 8] w w' ∧ v_st w' r' ∧ zt_I (zt_A x y u v 25 0) r' ∧ r'.length = 20 ∧ zt_bd r' := by
  induction n with
  | zero =>
    intro w r i hi h1 h4 hs hI hl hb
    obtain rfl : i = 25 := by omega
    refine ⟨w, r, ?_, fr_refl, hs, hI, by omega, hb⟩
    rw [q_X8_fill_7]
    simp (disch := first | exact nl_i | exact nl_r | exact nl_0 | exact nl_n | exact nl_x | exact kd_r | exact kd_n | exact kd_x | exact kd_o | exact cats0 | exact cats1 | exact cats2 | exact cats3 | exact cats4 | exact nr_i | exact nr_l | exact nr_z0 | exact nr_z1 | exact ft_i | exact ft_l | omega | rfl | assumption | (refine i_ne0 ?_ ?_ ?_ <;> omega) | (refine j_ne0 ?_ ?_ ?_ <;> omega) | (refine i_new ?_ ?_ <;> omega) | (refine bl_t ?_; with_unfolding_all rfl) | exact ft_z0 | exact ft_z1) only [q_X8_fill_8, q_X8_fill_10, i_add, i_sub, i_mul, i_neg, i_lt, i_le, i_eq, i_tm, i_div, i_j, j_i, j_add, j_sub, j_mul, j_neg, j_lt, j_le, j_eq, j_div, c_lt, c_le, c_gt, c_ge, c_eq, i_nat, rz_k, Nat.add_zero, Nat.zero_add, Nat.add_assoc, Nat.reduceAdd, if_true, if_false, if_pos (show (24 : Int) < ((25 : Nat) : Int) by omega)]
    rfl
  | succ n ih =>
    intro w r i hi h1 h4 hs hI hl hb
    have hc : zt_c x y u v i 0 = ((i : Int) * x, (i : Int) * y) := by unfold zt_c; rw [Int.zero_mul, Int.zero_mul, Int.add_zero, Int.add_zero]
    have hbd := zt_c_bd (i := (i : Int)) (j := 0) hx (by omega) (by omega)
    obtain ⟨w1, e1, f1, s1⟩ := x_sadd (X := X) (d := d) (e := zt_c x y u v i 0) hs hI.2.2.2 hb hbd
    obtain ⟨z1, z2⟩ := zt_A_step (i := (i : Int)) (j := 0) hD (.inl ⟨rfl, by omega, by omega⟩)
    obtain ⟨I1, L1⟩ := zt_I_add hI z1 z2
    obtain ⟨w2, r2, e2, f2, s2⟩ := ih w1 _ (i + 1) (by omega) (by omega) (fr_get f1 (by decide) h4) s1 (by rw [Int.natCast_add]; exact I1) (by rw [L1, hl]; omega) (zt_bd_add hb (zt_n_bd hbd))
    refine ⟨w2, r2, ?_, fr_trans f1 f2, s2⟩
    rw [hc] at e1
    dsimp only at e1
    obtain ⟨L, P, Q, h5, -⟩ := hs
    rw [← e2, q_X8_fill_7]
    simp (disch := first | exact nl_i | exact nl_r | exact nl_0 | exact nl_n | exact nl_x | exact kd_r | exact kd_n | exact kd_x | exact kd_o | exact cats0 | exact cats1 | exact cats2 | exact cats3 | exact cats4 | exact nr_i | exact nr_l | exact nr_z0 | exact nr_z1 | exact ft_i | exact ft_l | omega | rfl | assumption | (refine i_ne0 ?_ ?_ ?_ <;> omega) | (refine j_ne0 ?_ ?_ ?_ <;> omega) | (refine i_new ?_ ?_ <;> omega) | (refine bl_t ?_; with_unfolding_all rfl) | exact ft_z0 | exact ft_z1) only [q_X8_fill_8, q_X8_fill_10, q_X8_fill_13, q_X8_fill_14, q_X8_fill_15, q_X8_fill_16, q_X8_fill_17, q_X8_fill_20, q_X8_fill_21, q_X8_fill_22, q_X8_fill_23, q_X8_fill_24, q_X8_fill_27, q_X8_fill_28, q_X8_fill_31, q_X8_fill_34, i_add, i_sub, i_mul, i_neg, i_lt, i_le, i_eq, i_tm, i_div, i_j, j_i, j_add, j_sub, j_mul, j_neg, j_lt, j_le, j_eq, j_div, c_lt, c_le, c_gt, c_ge, c_eq, i_nat, rz_k, Nat.add_zero, Nat.zero_add, Nat.add_assoc, Nat.reduceAdd, if_true, if_false, if_neg (show ¬ (24 : Int) < (i : Int) by omega), gf_eq h4, List.getElem?_cons_zero, List.getElem?_cons_succ, vk_eq h5, e1]
    rfl
theorem l_fill3 {x y u v j : Int} (hD : x * v - y * u ≠ 0) (hx : x.natAbs ≤ 1500000 ∧ y.natAbs ≤ 1500000 ∧ u.natAbs ≤ 1500000 ∧ v.natAbs ≤ 1500000) (hj : 1 ≤ j ∧ j ≤ 24) (n : Nat) : ∀ (w : rz_W) (r : List (Int × Int)) (i : Int), (25 - i).toNat = n → -24 ≤ i → i ≤ 25 → v_ob w 4 0 [.long (Int64.ofInt x), .long (Int64.ofInt y), .long (Int64.ofInt u), .long (Int64.ofInt v), .long f, .long g, .long h] → v_st w r → zt_I (zt_A x y u v i j) r → r.length = 20 → zt_bd r → ∃ w' r', rz_G X (d + 2) mz_X8_fill 48 [some (.ref 5), some (.ref 4), some (.int (Int32.ofInt j)), some (.int (Int32.ofInt i))] [] w nc ns = rz_G X (d + 2) mz_X8_fill 94 [some (.ref 5), some (.ref 4), some (.int (Int32.ofInt j)), some (.int (Int32.ofInt 25))] [] w' nc ns ∧ rz_fr [5, 6, 7, 8] w w' ∧ v_st w' r' ∧ zt_I (zt_A x y u v 25 j) r' ∧ r'.length = 20 ∧ zt_bd r' := by
  induction n with
  | zero =>
    intro w r i hi h1 h2 h4 hs hI hl hb
    obtain rfl : i = 25 := by omega
    refine ⟨w, r, ?_, fr_refl, hs, hI, hl, hb⟩
    rw [q_X8_fill_48]
    simp (disch := first | exact nl_i | exact nl_r | exact nl_0 | exact nl_n | exact nl_x | exact kd_r | exact kd_n | exact kd_x | exact kd_o | exact cats0 | exact cats1 | exact cats2 | exact cats3 | exact cats4 | exact nr_i | exact nr_l | exact nr_z0 | exact nr_z1 | exact ft_i | exact ft_l | omega | rfl | assumption | (refine i_ne0 ?_ ?_ ?_ <;> omega) | (refine j_ne0 ?_ ?_ ?_ <;> omega) | (refine i_new ?_ ?_ <;> omega) | (refine bl_t ?_; with_unfolding_all rfl) | exact ft_z0 | exact ft_z1) only [q_X8_fill_49, q_X8_fill_51, i_add, i_sub, i_mul, i_neg, i_lt, i_le, i_eq, i_tm, i_div, i_j, j_i, j_add, j_sub, j_mul, j_neg, j_lt, j_le, j_eq, j_div, c_lt, c_le, c_gt, c_ge, c_eq, i_nat, rz_k, Nat.add_zero, Nat.zero_add, Nat.add_assoc, Nat.reduceAdd, if_true, if_false, if_pos (show (24 : Int) < 25 by omega)]
  | succ n ih =>
    intro w r i hi h1 h2 h4 hs hI hl hb
    have hbd := zt_c_bd (i := i) (j := j) hx (by omega) (by omega)
    obtain ⟨w1, e1, f1, s1⟩ := x_sadd (X := X) (d := d) (e := zt_c x y u v i j) hs hI.2.2.2 hb hbd
    obtain ⟨z1, z2⟩ := zt_A_step (i := i) (j := j) hD (.inr ⟨hj.1, hj.2, by omega, by omega⟩)
    obtain ⟨I1, L1⟩ := zt_I_add hI z1 z2
    obtain ⟨w2, r2, e2, f2, s2⟩ := ih w1 _ (i + 1) (by omega) (by omega) (by omega) (fr_get f1 (by decide) h4) s1 I1 (by rw [L1, hl]; rfl) (zt_bd_add hb (zt_n_bd hbd))
    refine ⟨w2, r2, ?_, fr_trans f1 f2, s2⟩
    unfold zt_c at e1
    dsimp only at e1
    obtain ⟨L, P, Q, h5, -⟩ := hs
    rw [← e2, q_X8_fill_48]
    simp (disch := first | exact nl_i | exact nl_r | exact nl_0 | exact nl_n | exact nl_x | exact kd_r | exact kd_n | exact kd_x | exact kd_o | exact cats0 | exact cats1 | exact cats2 | exact cats3 | exact cats4 | exact nr_i | exact nr_l | exact nr_z0 | exact nr_z1 | exact ft_i | exact ft_l | omega | rfl | assumption | (refine i_ne0 ?_ ?_ ?_ <;> omega) | (refine j_ne0 ?_ ?_ ?_ <;> omega) | (refine i_new ?_ ?_ <;> omega) | (refine bl_t ?_; with_unfolding_all rfl) | exact ft_z0 | exact ft_z1) only [q_X8_fill_49, q_X8_fill_51, q_X8_fill_54, q_X8_fill_55, q_X8_fill_56, q_X8_fill_57, q_X8_fill_58, q_X8_fill_61, q_X8_fill_62, q_X8_fill_63, q_X8_fill_64, q_X8_fill_65, q_X8_fill_68, q_X8_fill_69, q_X8_fill_70, q_X8_fill_71, q_X8_fill_72, q_X8_fill_73, q_X8_fill_76, q_X8_fill_77, q_X8_fill_78, q_X8_fill_79, q_X8_fill_80, q_X8_fill_83, q_X8_fill_84, q_X8_fill_85, q_X8_fill_88, q_X8_fill_91, i_add, i_sub, i_mul, i_neg, i_lt, i_le, i_eq, i_tm, i_div, i_j, j_i, j_add, j_sub, j_mul, j_neg, j_lt, j_le, j_eq, j_div, c_lt, c_le, c_gt, c_ge, c_eq, i_nat, rz_k, Nat.add_zero, Nat.zero_add, Nat.add_assoc, Nat.reduceAdd, if_true, if_false, if_neg (show ¬ (24 : Int) < i by omega), gf_eq h4, List.getElem?_cons_zero, List.getElem?_cons_succ, vk_eq h5, e1]
theorem l_fill2 {x y u v : Int} (hD : x * v - y * u ≠ 0) (hx : x.natAbs ≤ 1500000 ∧ y.natAbs ≤ 1500000 ∧ u.natAbs ≤ 1500000 ∧ v.natAbs ≤ 1500000) (n : Nat) : ∀ (w : rz_W) (r : List (Int × Int)) (j : Int) (l3 : Option Value), (25 - j).toNat = n → 1 ≤ j → j ≤ 25 → v_ob w 4 0 [.long (Int64.ofInt x), .long (Int64.ofInt y), .long (Int64.ofInt u), .long (Int64.ofInt v), .long f, .long g, .long h] → v_st w r → zt_I (zt_A x y u v (-24) j) r → r.length = 20 → zt_bd r → ∃ w' r', rz_G X (d + 2) mz_X8_fill 39 [some (.ref 5), some (.ref 4), some (.int (Int32.ofInt j)), l3] [] w nc ns = some (.inl none, w', nc, ns) ∧ rz_fr [5, 6, 7, 8] w w' ∧ v_st w' r' ∧ zt_I (zt_S x y u v) r' ∧ r'.length = 20 ∧ zt_bd r' := by
  induction n with
  | zero =>
    intro w r j l3 hi h1 h2 h4 hs hI hl hb
    obtain rfl : j = 25 := by omega
    refine ⟨w, r, ?_, fr_refl, hs, zt_I_iff hI (zt_A_end hD), hl, hb⟩
    rw [q_X8_fill_39]
    simp (disch := first | exact nl_i | exact nl_r | exact nl_0 | exact nl_n | exact nl_x | exact kd_r | exact kd_n | exact kd_x | exact kd_o | exact cats0 | exact cats1 | exact cats2 | exact cats3 | exact cats4 | exact nr_i | exact nr_l | exact nr_z0 | exact nr_z1 | exact ft_i | exact ft_l | omega | rfl | assumption | (refine i_ne0 ?_ ?_ ?_ <;> omega) | (refine j_ne0 ?_ ?_ ?_ <;> omega) | (refine i_new ?_ ?_ <;> omega) | (refine bl_t ?_; with_unfolding_all rfl) | exact ft_z0 | exact ft_z1) only [q_X8_fill_40, q_X8_fill_42, q_X8_fill_100, i_add, i_sub, i_mul, i_neg, i_lt, i_le, i_eq, i_tm, i_div, i_j, j_i, j_add, j_sub, j_mul, j_neg, j_lt, j_le, j_eq, j_div, c_lt, c_le, c_gt, c_ge, c_eq, i_nat, rz_k, Nat.add_zero, Nat.zero_add, Nat.add_assoc, Nat.reduceAdd, if_true, if_false, if_pos (show (24 : Int) < 25 by omega)]
  | succ n ih =>
    intro w r j l3 hi h1 h2 h4 hs hI hl hb
    obtain ⟨w1, r1, e1, f1, s1, I1, L1, B1⟩ := l_fill3 (X := X) (d := d) (nc := nc) (ns := ns) hD hx (show 1 ≤ j ∧ j ≤ 24 by omega) 49 w r (-24) (by omega) (by omega) (by omega) h4 hs hI hl hb
    obtain ⟨w2, r2, e2, f2, s2⟩ := ih w1 r1 (j + 1) (some (.int (Int32.ofInt 25))) (by omega) (by omega) (by omega) (fr_get f1 (by decide) h4) s1 (zt_I_iff I1 (fun s => by
      constructor
      · rintro ⟨k, l, h1, h2, h3⟩
        exact ⟨k, l, h1, by omega, h3⟩
      · rintro ⟨k, l, h1, h2, h3⟩
        exact ⟨k, l, h1, by omega, h3⟩)) L1 B1
    refine ⟨w2, r2, ?_, fr_trans f1 f2, s2⟩
    rw [← e2, q_X8_fill_39]
    simp (disch := first | exact nl_i | exact nl_r | exact nl_0 | exact nl_n | exact nl_x | exact kd_r | exact kd_n | exact kd_x | exact kd_o | exact cats0 | exact cats1 | exact cats2 | exact cats3 | exact cats4 | exact nr_i | exact nr_l | exact nr_z0 | exact nr_z1 | exact ft_i | exact ft_l | omega | rfl | assumption | (refine i_ne0 ?_ ?_ ?_ <;> omega) | (refine j_ne0 ?_ ?_ ?_ <;> omega) | (refine i_new ?_ ?_ <;> omega) | (refine bl_t ?_; with_unfolding_all rfl) | exact ft_z0 | exact ft_z1) only [q_X8_fill_40, q_X8_fill_42, q_X8_fill_45, q_X8_fill_47, i_add, i_sub, i_mul, i_neg, i_lt, i_le, i_eq, i_tm, i_div, i_j, j_i, j_add, j_sub, j_mul, j_neg, j_lt, j_le, j_eq, j_div, c_lt, c_le, c_gt, c_ge, c_eq, i_nat, rz_k, Nat.add_zero, Nat.zero_add, Nat.add_assoc, Nat.reduceAdd, if_true, if_false, if_neg (show ¬ (24 : Int) < j by omega)]
    refine Eq.trans e1 ?_
    simp (disch := first | exact nl_i | exact nl_r | exact nl_0 | exact nl_n | exact nl_x | exact kd_r | exact kd_n | exact kd_x | exact kd_o | exact cats0 | exact cats1 | exact cats2 | exact cats3 | exact cats4 | exact nr_i | exact nr_l | exact nr_z0 | exact nr_z1 | exact ft_i | exact ft_l | omega | rfl | assumption | (refine i_ne0 ?_ ?_ ?_ <;> omega) | (refine j_ne0 ?_ ?_ ?_ <;> omega) | (refine i_new ?_ ?_ <;> omega) | (refine bl_t ?_; with_unfolding_all rfl) | exact ft_z0 | exact ft_z1) only [q_X8_fill_94, q_X8_fill_97, i_add, i_sub, i_mul, i_neg, i_lt, i_le, i_eq, i_tm, i_div, i_j, j_i, j_add, j_sub, j_mul, j_neg, j_lt, j_le, j_eq, j_div, c_lt, c_le, c_gt, c_ge, c_eq, i_nat, rz_k, Nat.add_zero, Nat.zero_add, Nat.add_assoc, Nat.reduceAdd, if_true, if_false]
theorem x_fillrow {x y u v : Int} (hD : x * v - y * u ≠ 0) (hx : x.natAbs ≤ 1500000 ∧ y.natAbs ≤ 1500000 ∧ u.natAbs ≤ 1500000 ∧ v.natAbs ≤ 1500000) {n0 : Int32} {L P Q : Nat → Int64} (h4 : v_ob w 4 0 [.long (Int64.ofInt x), .long (Int64.ofInt y), .long (Int64.ofInt u), .long (Int64.ofInt v), .long f, .long g, .long h]) (h5 : v_ob w 5 8 [.ref 6, .ref 7, .ref 8, .int n0]) (h6 : v_la w 6 20 L) (h7 : v_la w 7 20 P) (h8 : v_la w 8 20 Q) : ∃ w' r', rz_ex X (d + 3) 90 [.ref 5, .ref 4] w = some (.inl none, w', 0, 0) ∧ rz_fr [5, 6, 7, 8] w w' ∧ v_st w' r' ∧ zt_I (zt_S x y u v) r' ∧ r'.length = 20 ∧ zt_bd r' := by
  have g5 : v_ob (w.set 5 (.inr (8, [.ref 6, .ref 7, .ref 8, .int (Int32.ofInt 0)]))) 5 8 [.ref 6, .ref 7, .ref 8, .int (Int32.ofInt (([] : List (Int × Int)).length : Int))] := w_eq (w_lt h5)
  have g4 : v_ob (w.set 5 (.inr (8, [.ref 6, .ref 7, .ref 8, .int (Int32.ofInt 0)]))) 4 0 [.long (Int64.ofInt x), .long (Int64.ofInt y), .long (Int64.ofInt u), .long (Int64.ofInt v), .long f, .long g, .long h] := (w_ne (by omega)).trans h4
  have s0 : v_st (w.set 5 (.inr (8, [.ref 6, .ref 7, .ref 8, .int (Int32.ofInt 0)]))) [] := ⟨L, P, Q, g5, (w_ne (by omega)).trans h6, (w_ne (by omega)).trans h7, (w_ne (by omega)).trans h8, trivial⟩
  obtain ⟨w1, r1, e1, f1, s1, I1, L1, B1⟩ := l_fill1 (X := X) (d := d) (nc := 0) (ns := 0) (l3 := none) hD hx 24 _ [] 1 (by omega) (by omega) g4 s0 (zt_I_nil (by
    rintro s ⟨k, l, h1, h2, h3⟩
    omega)) rfl (fun e he => by cases he)
  obtain ⟨w2, r2, e2, f2, s2⟩ := l_fill2 (X := X) (d := d) (nc := 0) (ns := 0) hD hx 24 w1 r1 1 none (by omega) (by omega) (by omega) (fr_get f1 (by decide) g4) s1 (zt_I_iff I1 (fun s => by
      constructor
      · rintro ⟨k, l, h1, h2, h3⟩
        exact ⟨k, l, h1, by omega, h3⟩
      · rintro ⟨k, l, h1, h2, h3⟩
        exact ⟨k, l, h1, by omega, h3⟩)) L1 B1
  refine ⟨w2, r2, ?_, fr_trans (fr_set (by decide)) (fr_trans f1 f2), s2⟩
  rw [← e2]
  simp (disch := first | exact nl_i | exact nl_r | exact nl_0 | exact nl_n | exact nl_x | exact kd_r | exact kd_n | exact kd_x | exact kd_o | exact cats0 | exact cats1 | exact cats2 | exact cats3 | exact cats4 | exact nr_i | exact nr_l | exact nr_z0 | exact nr_z1 | exact ft_i | exact ft_l | omega | rfl | assumption | (refine i_ne0 ?_ ?_ ?_ <;> omega) | (refine j_ne0 ?_ ?_ ?_ <;> omega) | (refine i_new ?_ ?_ <;> omega) | (refine bl_t ?_; with_unfolding_all rfl) | exact ft_z0 | exact ft_z1) only [n_X8_fill, q_X8_fill_0, q_X8_fill_1, q_X8_fill_2, q_X8_fill_5, q_X8_fill_6, i_add, i_sub, i_mul, i_neg, i_lt, i_le, i_eq, i_tm, i_div, i_j, j_i, j_add, j_sub, j_mul, j_neg, j_lt, j_le, j_eq, j_div, c_lt, c_le, c_gt, c_ge, c_eq, i_nat, rz_k, Nat.add_zero, Nat.zero_add, Nat.add_assoc, Nat.reduceAdd, if_true, if_false, pf_eq h5, List.set_cons_zero, List.set_cons_succ]
  refine Eq.trans e1 ?_
  simp (disch := first | exact nl_i | exact nl_r | exact nl_0 | exact nl_n | exact nl_x | exact kd_r | exact kd_n | exact kd_x | exact kd_o | exact cats0 | exact cats1 | exact cats2 | exact cats3 | exact cats4 | exact nr_i | exact nr_l | exact nr_z0 | exact nr_z1 | exact ft_i | exact ft_l | omega | rfl | assumption | (refine i_ne0 ?_ ?_ ?_ <;> omega) | (refine j_ne0 ?_ ?_ ?_ <;> omega) | (refine i_new ?_ ?_ <;> omega) | (refine bl_t ?_; with_unfolding_all rfl) | exact ft_z0 | exact ft_z1) only [q_X8_fill_37, q_X8_fill_38, i_add, i_sub, i_mul, i_neg, i_lt, i_le, i_eq, i_tm, i_div, i_j, j_i, j_add, j_sub, j_mul, j_neg, j_lt, j_le, j_eq, j_div, c_lt, c_le, c_gt, c_ge, c_eq, i_nat, rz_k, Nat.add_zero, Nat.zero_add, Nat.add_assoc, Nat.reduceAdd, if_true, if_false]
theorem zr_fl_S (r1 r2 r3 r4 : Int) (s : Int × Int) : zt_S (zr_fl (r1, r2, r3, r4)).1 (zr_fl (r1, r2, r3, r4)).2.1 (zr_fl (r1, r2, r3, r4)).2.2.1 (zr_fl (r1, r2, r3, r4)).2.2.2 s ↔ zt_S r1 r2 r3 r4 s := by
  unfold zr_fl
  dsimp only
  split
  · split
    · rw [zt_S_swap]; exact zt_S_neg s
    · exact zt_S_neg s
  · split
    · exact zt_S_swap s
    · exact Iff.rfl
theorem zr_fl_bd {r1 r2 r3 r4 : Int} {M : Nat} (h : r1.natAbs ≤ M ∧ r2.natAbs ≤ M ∧ r3.natAbs ≤ M ∧ r4.natAbs ≤ M) : (zr_fl (r1, r2, r3, r4)).1.natAbs ≤ M ∧ (zr_fl (r1, r2, r3, r4)).2.1.natAbs ≤ M ∧ (zr_fl (r1, r2, r3, r4)).2.2.1.natAbs ≤ M ∧ (zr_fl (r1, r2, r3, r4)).2.2.2.natAbs ≤ M := by
  unfold zr_fl
  dsimp only
  split
  · split <;> dsimp only <;> omega
  · split <;> dsimp only <;> omega
theorem zr_fl_det {r1 r2 r3 r4 : Int} (hD : r1 * r4 - r2 * r3 ≠ 0) : (zr_fl (r1, r2, r3, r4)).1 * (zr_fl (r1, r2, r3, r4)).2.2.2 - (zr_fl (r1, r2, r3, r4)).2.1 * (zr_fl (r1, r2, r3, r4)).2.2.1 = ((r1 * r4 - r2 * r3).natAbs : Int) := by
  have e1 : r1 * -r4 - r2 * -r3 = -(r1 * r4 - r2 * r3) := by grind
  have e2 : -r3 * r2 - -r4 * r1 = r1 * r4 - r2 * r3 := by grind
  have e3 : r3 * r2 - r4 * r1 = -(r1 * r4 - r2 * r3) := by grind
  unfold zr_fl
  dsimp only
  by_cases h1 : 0 < zr_p r1 r2 r3 r4
  · rw [if_pos h1]
    by_cases h2 : r1 * -r4 - r2 * -r3 < 0
    · rw [if_pos h2]; dsimp only; rw [e2]; omega
    · rw [if_neg h2]; dsimp only; rw [e1]; omega
  · rw [if_neg h1]
    by_cases h2 : r1 * r4 - r2 * r3 < 0
    · rw [if_pos h2]; dsimp only; rw [e3]; omega
    · rw [if_neg h2]; dsimp only; omega
theorem v_misc_bs {w' : rz_W} {S : List Nat} {a b c e f g h : Int64} {n : Int32} {L P Q : Nat → Int64} (hv : v_misc w) (hf : rz_fr S w w') (hS : ∀ q, q ∈ S → q ∈ [4, 5, 6, 7, 8]) (h1 : v_ob w' 4 0 [.long a, .long b, .long c, .long e, .long f, .long g, .long h]) (h2 : v_ob w' 5 8 [.ref 6, .ref 7, .ref 8, .int n]) (h3 : v_la w' 6 20 L) (h4 : v_la w' 7 20 P) (h5 : v_la w' 8 20 Q) : v_misc w' := by
  obtain ⟨-, -, ⟨c1, c2, c3, c4, c5, p6, p7, p8⟩, ⟨d1, d2, d3, q1, q2, q3⟩, ⟨e1, e2, e3, p9, p10, p11⟩, ⟨f1, f2, p12, p13⟩, ⟨f3, p14⟩⟩ := hv
  have k : ∀ {q : Nat} {u : rz_E}, q ∉ [4, 5, 6, 7, 8] → w[q]? = some u → w'[q]? = some u := fun hq h => fr_get hf (fun c => hq (hS _ c)) h
  exact ⟨⟨a, b, c, e, f, g, h, h1⟩, ⟨n, L, P, Q, h2, h3, h4, h5⟩, ⟨c1, c2, c3, c4, c5, k (by decide) p6, k (by decide) p7, k (by decide) p8⟩, ⟨d1, d2, d3, k (by decide) q1, k (by decide) q2, k (by decide) q3⟩, ⟨e1, e2, e3, k (by decide) p9, k (by decide) p10, k (by decide) p11⟩, ⟨f1, f2, k (by decide) p12, k (by decide) p13⟩, ⟨f3, k (by decide) p14⟩⟩
/-- what two short steps are: a fact of the grid alone -/
theorem zr_grid {a b c : Int} (hr : 1 ≤ a ∧ 0 ≤ b ∧ b < c ∧ a * c ≤ 1000000) : ∃ r1 r2 r3 r4, zr_red 50 a b 0 c = some (r1, r2, r3, r4) ∧ (r1 * r4 - r2 * r3 = a * c ∨ r1 * r4 - r2 * r3 = -(a * c)) ∧ r1 * r4 - r2 * r3 ≠ 0 ∧ zr_N r1 r2 ≤ zr_N r3 r4 ∧ (r1.natAbs ≤ 1500000 ∧ r2.natAbs ≤ 1500000 ∧ r3.natAbs ≤ 1500000 ∧ r4.natAbs ≤ 1500000) ∧ -zr_N r1 r2 ≤ 2 * zr_p r1 r2 r3 r4 ∧ 2 * zr_p r1 r2 r3 r4 < zr_N r1 r2 := by
  have q := z_ac hr.1 (show 1 ≤ c by omega) hr.2.2.2
  have m1 := z_nmul (a := a) (b := a) (M := 1000000) (N := 1000000) (by omega) (by omega)
  have m2 := z_nmul (a := b) (b := b) (M := 1000000) (N := 1000000) (by omega) (by omega)
  have m3 := z_nmul (a := c) (b := c) (M := 1000000) (N := 1000000) (by omega) (by omega)
  have N1 : zr_N a b < 2 ^ 41 := by unfold zr_N; omega
  have N2 : zr_N 0 c < 2 ^ 41 := by unfold zr_N; omega
  have hac := Int.mul_pos (show 0 < a by omega) (show 0 < c by omega)
  have hD : a * c - b * 0 ≠ 0 := by omega
  obtain ⟨⟨r1, r2, r3, r4⟩, hrr⟩ := zr_ends hD N1 N2
  have res := zr_res (B := 2 ^ 41) (M := fun _ _ => True) (fun _ _ _ _ _ _ _ => trivial) 50 hD (by omega) (by omega) trivial trivial hrr
  obtain ⟨c1, c2⟩ := zr_cb (show zr_N r1 r2 ≤ 2 ^ 41 by omega) (Int.le_refl _)
  obtain ⟨c3, c4⟩ := zr_cb (show zr_N r3 r4 ≤ 2 ^ 41 by omega) (Int.le_refl _)
  rw [Int.mul_zero, Int.sub_zero] at res
  exact ⟨r1, r2, r3, r4, hrr, res.1, by omega, res.2.1, ⟨c1, c2, c3, c4⟩, res.2.2.2.2.2⟩
theorem x_listSteps {g' : Nat} {a b c r1 r2 r3 r4 : Int} (hy : v_yard w kp) (hmi : v_misc w) (ho : v_ob w g' 3 [.int (Int32.ofInt a), .int (Int32.ofInt b), .int (Int32.ofInt c)]) (hg : 49 ≤ g') (hr : 1 ≤ a ∧ 0 ≤ b ∧ b < c ∧ a * c ≤ 1000000) (hrr : zr_red 50 a b 0 c = some (r1, r2, r3, r4)) : ∃ w' r', rz_ex X (d + 4) 160 [.ref 0, .ref g'] w = some (.inl none, w', 0, 0) ∧ rz_fr [4, 5, 6, 7, 8] w w' ∧ v_misc w' ∧ v_st w' r' ∧ zt_I (zt_S r1 r2 r3 r4) r' ∧ r'.length = 20 ∧ zt_bd r' := by
  obtain ⟨⟨o, o1, o2, o3, f, g, h, p4⟩, ⟨n0, L, P, Q, p5, p6, p7, p8⟩, -, -, -, -, -⟩ := id hmi
  obtain ⟨s1, s2, s3, s4, hss, e1⟩ := x_reduce (X := X) (d := d) (f := f) (g := g) (h := h) p4 ho hg hr
  rw [hrr] at hss
  simp only [Option.some.injEq, Prod.mk.injEq] at hss
  obtain ⟨rfl, rfl, rfl, rfl⟩ := hss
  obtain ⟨t1, t2, t3, t4, htt, k1, k2, k3, k4, k5, k6⟩ := zr_grid hr
  rw [hrr] at htt
  simp only [Option.some.injEq, Prod.mk.injEq] at htt
  obtain ⟨rfl, rfl, rfl, rfl⟩ := htt
  have hdet := zr_fl_det k2
  have hS := zr_fl_S r1 r2 r3 r4
  have hb := zr_fl_bd k4
  generalize zr_fl (r1, r2, r3, r4) = q at *
  have f1 : rz_fr [4] w (w.set 4 (.inr (0, [.long (Int64.ofInt q.1), .long (Int64.ofInt q.2.1), .long (Int64.ofInt q.2.2.1), .long (Int64.ofInt q.2.2.2), .long f, .long g, .long h]))) := fr_set (by decide)
  have g4 : v_ob (w.set 4 (.inr (0, [.long (Int64.ofInt q.1), .long (Int64.ofInt q.2.1), .long (Int64.ofInt q.2.2.1), .long (Int64.ofInt q.2.2.2), .long f, .long g, .long h]))) 4 0 [.long (Int64.ofInt q.1), .long (Int64.ofInt q.2.1), .long (Int64.ofInt q.2.2.1), .long (Int64.ofInt q.2.2.2), .long f, .long g, .long h] := w_eq (w_lt p4)
  generalize hw1 : w.set 4 (.inr (0, [.long (Int64.ofInt q.1), .long (Int64.ofInt q.2.1), .long (Int64.ofInt q.2.2.1), .long (Int64.ofInt q.2.2.2), .long f, .long g, .long h])) = w1 at *
  have q5 := fr_get f1 (by decide) p5
  have hy1 : v_yard w1 kp := fr_get f1 (by decide) hy
  obtain ⟨w2, r, e2, f2, s2, I2, L2, B2⟩ := x_fillrow (X := X) (d := d) (by omega) hb g4 q5 (fr_get f1 (by decide) p6) (fr_get f1 (by decide) p7) (fr_get f1 (by decide) p8)
  have f3 : rz_fr [4, 5, 6, 7, 8] w w2 := fr_trans (fr_sub f1 (by decide)) (fr_sub f2 (by decide))
  refine ⟨w2, r, ?_, f3, ?_, s2, zt_I_iff I2 hS, L2, B2⟩
  · simp (disch := first | exact nl_i | exact nl_r | exact nl_0 | exact nl_n | exact nl_x | exact kd_r | exact kd_n | exact kd_x | exact kd_o | exact cats0 | exact cats1 | exact cats2 | exact cats3 | exact cats4 | exact nr_i | exact nr_l | exact nr_z0 | exact nr_z1 | exact ft_i | exact ft_l | omega | rfl | assumption | (refine i_ne0 ?_ ?_ ?_ <;> omega) | (refine j_ne0 ?_ ?_ ?_ <;> omega) | (refine i_new ?_ ?_ <;> omega) | (refine bl_t ?_; with_unfolding_all rfl) | exact ft_z0 | exact ft_z1) only [n_X10_listSteps, q_X10_listSteps_0, q_X10_listSteps_1, q_X10_listSteps_4, q_X10_listSteps_5, q_X10_listSteps_8, q_X10_listSteps_9, q_X10_listSteps_12, q_X10_listSteps_13, q_X10_listSteps_16, q_X10_listSteps_19, i_add, i_sub, i_mul, i_neg, i_lt, i_le, i_eq, i_tm, i_div, i_j, j_i, j_add, j_sub, j_mul, j_neg, j_lt, j_le, j_eq, j_div, c_lt, c_le, c_gt, c_ge, c_eq, i_nat, rz_k, Nat.add_zero, Nat.zero_add, Nat.add_assoc, Nat.reduceAdd, if_true, if_false, gf_eq hy, List.getElem?_cons_zero, List.getElem?_cons_succ, vk_eq p4, e1, gf_eq hy1, vk_eq q5, e2]
  · obtain ⟨L', P', Q', u5, u6, u7, u8, -⟩ := s2
    exact v_misc_bs hmi f3 (fun q h => h) (fr_get f2 (by decide) g4) u5 u6 u7 u8
theorem x_sx {r : List (Int × Int)} {k : Nat} {e : Int × Int} (hs : v_st w r) (hk : k < 20) (he : r.reverse[k]? = some e) : rz_ex X (d + 1) 93 [.ref 5, .int (Int32.ofInt (k : Int))] w = some (.inl (some (.int (Int32.ofInt e.1))), w, 0, 0) := by
  obtain ⟨L, P, Q, h5, h6, h7, h8, hr⟩ := hs
  obtain ⟨z1, z2, z3⟩ := zt_rp_at r hr k e he
  simp (disch := first | exact nl_i | exact nl_r | exact nl_0 | exact nl_n | exact nl_x | exact kd_r | exact kd_n | exact kd_x | exact kd_o | exact cats0 | exact cats1 | exact cats2 | exact cats3 | exact cats4 | exact nr_i | exact nr_l | exact nr_z0 | exact nr_z1 | exact ft_i | exact ft_l | omega | rfl | assumption | (refine i_ne0 ?_ ?_ ?_ <;> omega) | (refine j_ne0 ?_ ?_ ?_ <;> omega) | (refine i_new ?_ ?_ <;> omega) | (refine bl_t ?_; with_unfolding_all rfl) | exact ft_z0 | exact ft_z1) only [n_X8_xOf, q_X8_xOf_0, q_X8_xOf_1, q_X8_xOf_4, q_X8_xOf_5, q_X8_xOf_7, q_X8_xOf_10, q_X8_xOf_11, q_X8_xOf_14, q_X8_xOf_15, q_X8_xOf_16, q_X8_xOf_17, q_X8_xOf_20, q_X8_xOf_21, i_add, i_sub, i_mul, i_neg, i_lt, i_le, i_eq, i_tm, i_div, i_j, j_i, j_add, j_sub, j_mul, j_neg, j_lt, j_le, j_eq, j_div, c_lt, c_le, c_gt, c_ge, c_eq, i_nat, rz_k, Nat.add_zero, Nat.zero_add, Nat.add_assoc, Nat.reduceAdd, if_true, if_false, gf_eq h5, List.getElem?_cons_zero, List.getElem?_cons_succ, al_eq h7, Int.toNat_natCast, z2, if_neg (show ¬ (k : Int) < 0 by omega), if_neg (show ¬ 20 ≤ (k : Int) by omega), if_pos (show (k : Int) < 20 by omega)]
theorem x_sy {r : List (Int × Int)} {k : Nat} {e : Int × Int} (hs : v_st w r) (hk : k < 20) (he : r.reverse[k]? = some e) : rz_ex X (d + 1) 94 [.ref 5, .int (Int32.ofInt (k : Int))] w = some (.inl (some (.int (Int32.ofInt e.2))), w, 0, 0) := by
  obtain ⟨L, P, Q, h5, h6, h7, h8, hr⟩ := hs
  obtain ⟨z1, z2, z3⟩ := zt_rp_at r hr k e he
  simp (disch := first | exact nl_i | exact nl_r | exact nl_0 | exact nl_n | exact nl_x | exact kd_r | exact kd_n | exact kd_x | exact kd_o | exact cats0 | exact cats1 | exact cats2 | exact cats3 | exact cats4 | exact nr_i | exact nr_l | exact nr_z0 | exact nr_z1 | exact ft_i | exact ft_l | omega | rfl | assumption | (refine i_ne0 ?_ ?_ ?_ <;> omega) | (refine j_ne0 ?_ ?_ ?_ <;> omega) | (refine i_new ?_ ?_ <;> omega) | (refine bl_t ?_; with_unfolding_all rfl) | exact ft_z0 | exact ft_z1) only [n_X8_yOf, q_X8_yOf_0, q_X8_yOf_1, q_X8_yOf_4, q_X8_yOf_5, q_X8_yOf_7, q_X8_yOf_10, q_X8_yOf_11, q_X8_yOf_14, q_X8_yOf_15, q_X8_yOf_16, q_X8_yOf_17, q_X8_yOf_20, q_X8_yOf_21, i_add, i_sub, i_mul, i_neg, i_lt, i_le, i_eq, i_tm, i_div, i_j, j_i, j_add, j_sub, j_mul, j_neg, j_lt, j_le, j_eq, j_div, c_lt, c_le, c_gt, c_ge, c_eq, i_nat, rz_k, Nat.add_zero, Nat.zero_add, Nat.add_assoc, Nat.reduceAdd, if_true, if_false, gf_eq h5, List.getElem?_cons_zero, List.getElem?_cons_succ, al_eq h8, Int.toNat_natCast, z3, if_neg (show ¬ (k : Int) < 0 by omega), if_neg (show ¬ 20 ≤ (k : Int) by omega), if_pos (show (k : Int) < 20 by omega)]
/-- the number of the first step aside -/
def zt_as2 (r : Nat → Int × Int) : Nat → Nat → Option Nat
  | 0, _ => none
  | n + 1, k => if (r 0).1 * (r k).2 = (r 0).2 * (r k).1 then zt_as2 r n (k + 1) else some k
def zt_asI (o : Option Nat) : Int := match o with
  | none => -1
  | some k => k
theorem l_aside {P Q : Nat → Int64} {n0 : Int32} {r : Nat → Int × Int} (h5 : v_ob w 5 8 [.ref 6, .ref 7, .ref 8, .int n0]) (h7 : v_la w 7 20 P) (h8 : v_la w 8 20 Q) (hr : ∀ k, k < 20 → P k = Int64.ofInt (r k).1 ∧ Q k = Int64.ofInt (r k).2 ∧ (r k).1.natAbs ≤ 100000000 ∧ (r k).2.natAbs ≤ 100000000) (n : Nat) : ∀ k, k + n = 20 → rz_G X d mz_X8_firstAside 2 [some (.ref 5), some (.int (Int32.ofInt (k : Int)))] [] w nc ns = some (.inl (some (.int (Int32.ofInt (zt_asI (zt_as2 r n k))))), w, nc, ns) := by
  obtain ⟨p0, q0, b1, b2⟩ := hr 0 (by omega)
  induction n with
  | zero =>
    intro k hk
    obtain rfl : k = 20 := by omega
    rw [q_X8_firstAside_2]
    simp (disch := first | exact nl_i | exact nl_r | exact nl_0 | exact nl_n | exact nl_x | exact kd_r | exact kd_n | exact kd_x | exact kd_o | exact cats0 | exact cats1 | exact cats2 | exact cats3 | exact cats4 | exact nr_i | exact nr_l | exact nr_z0 | exact nr_z1 | exact ft_i | exact ft_l | omega | rfl | assumption | (refine i_ne0 ?_ ?_ ?_ <;> omega) | (refine j_ne0 ?_ ?_ ?_ <;> omega) | (refine i_new ?_ ?_ <;> omega) | (refine bl_t ?_; with_unfolding_all rfl) | exact ft_z0 | exact ft_z1) only [q_X8_firstAside_3, q_X8_firstAside_5, q_X8_firstAside_8, q_X8_firstAside_9, q_X8_firstAside_12, q_X8_firstAside_13, q_X8_firstAside_14, q_X8_firstAside_15, q_X8_firstAside_18, q_X8_firstAside_19, q_X8_firstAside_20, q_X8_firstAside_21, q_X8_firstAside_22, q_X8_firstAside_25, q_X8_firstAside_26, q_X8_firstAside_27, q_X8_firstAside_28, q_X8_firstAside_31, q_X8_firstAside_32, q_X8_firstAside_33, q_X8_firstAside_34, q_X8_firstAside_35, q_X8_firstAside_38, q_X8_firstAside_39, q_X8_firstAside_40, q_X8_firstAside_43, q_X8_firstAside_46, q_X8_firstAside_47, i_add, i_sub, i_mul, i_neg, i_lt, i_le, i_eq, i_tm, i_div, i_j, j_i, j_add, j_sub, j_mul, j_neg, j_lt, j_le, j_eq, j_div, c_lt, c_le, c_gt, c_ge, c_eq, i_nat, rz_k, Nat.add_zero, Nat.zero_add, Nat.add_assoc, Nat.reduceAdd, if_true, if_false, if_pos (show 20 ≤ ((20 : Nat) : Int) by omega)]
    rfl
  | succ n ih =>
    intro k hk
    obtain ⟨pk, qk, b3, b4⟩ := hr k (by omega)
    have n1 := z_nmul b1 b4
    have n2 := z_nmul b2 b3
    rw [q_X8_firstAside_2]
    unfold zt_as2
    by_cases c : (r 0).1 * (r k).2 = (r 0).2 * (r k).1
    · rw [if_pos c, ← ih (k + 1) (by omega)]
      simp (disch := first | exact nl_i | exact nl_r | exact nl_0 | exact nl_n | exact nl_x | exact kd_r | exact kd_n | exact kd_x | exact kd_o | exact cats0 | exact cats1 | exact cats2 | exact cats3 | exact cats4 | exact nr_i | exact nr_l | exact nr_z0 | exact nr_z1 | exact ft_i | exact ft_l | omega | rfl | assumption | (refine i_ne0 ?_ ?_ ?_ <;> omega) | (refine j_ne0 ?_ ?_ ?_ <;> omega) | (refine i_new ?_ ?_ <;> omega) | (refine bl_t ?_; with_unfolding_all rfl) | exact ft_z0 | exact ft_z1) only [q_X8_firstAside_3, q_X8_firstAside_5, q_X8_firstAside_8, q_X8_firstAside_9, q_X8_firstAside_12, q_X8_firstAside_13, q_X8_firstAside_14, q_X8_firstAside_15, q_X8_firstAside_18, q_X8_firstAside_19, q_X8_firstAside_20, q_X8_firstAside_21, q_X8_firstAside_22, q_X8_firstAside_25, q_X8_firstAside_26, q_X8_firstAside_27, q_X8_firstAside_28, q_X8_firstAside_31, q_X8_firstAside_32, q_X8_firstAside_33, q_X8_firstAside_34, q_X8_firstAside_35, q_X8_firstAside_38, q_X8_firstAside_39, q_X8_firstAside_40, q_X8_firstAside_43, q_X8_firstAside_46, q_X8_firstAside_47, i_add, i_sub, i_mul, i_neg, i_lt, i_le, i_eq, i_tm, i_div, i_j, j_i, j_add, j_sub, j_mul, j_neg, j_lt, j_le, j_eq, j_div, c_lt, c_le, c_gt, c_ge, c_eq, i_nat, rz_k, Nat.add_zero, Nat.zero_add, Nat.add_assoc, Nat.reduceAdd, if_true, if_false, if_neg (show ¬ 20 ≤ (k : Int) by omega), gf_eq h5, List.getElem?_cons_zero, List.getElem?_cons_succ, al_eq h7, al_eq h8, Int.reduceToNat, Int.toNat_natCast, p0, q0, pk, qk, eq_true c]
      rfl
    · rw [if_neg c]
      simp (disch := first | exact nl_i | exact nl_r | exact nl_0 | exact nl_n | exact nl_x | exact kd_r | exact kd_n | exact kd_x | exact kd_o | exact cats0 | exact cats1 | exact cats2 | exact cats3 | exact cats4 | exact nr_i | exact nr_l | exact nr_z0 | exact nr_z1 | exact ft_i | exact ft_l | omega | rfl | assumption | (refine i_ne0 ?_ ?_ ?_ <;> omega) | (refine j_ne0 ?_ ?_ ?_ <;> omega) | (refine i_new ?_ ?_ <;> omega) | (refine bl_t ?_; with_unfolding_all rfl) | exact ft_z0 | exact ft_z1) only [q_X8_firstAside_3, q_X8_firstAside_5, q_X8_firstAside_8, q_X8_firstAside_9, q_X8_firstAside_12, q_X8_firstAside_13, q_X8_firstAside_14, q_X8_firstAside_15, q_X8_firstAside_18, q_X8_firstAside_19, q_X8_firstAside_20, q_X8_firstAside_21, q_X8_firstAside_22, q_X8_firstAside_25, q_X8_firstAside_26, q_X8_firstAside_27, q_X8_firstAside_28, q_X8_firstAside_31, q_X8_firstAside_32, q_X8_firstAside_33, q_X8_firstAside_34, q_X8_firstAside_35, q_X8_firstAside_38, q_X8_firstAside_39, q_X8_firstAside_40, q_X8_firstAside_43, q_X8_firstAside_46, q_X8_firstAside_47, i_add, i_sub, i_mul, i_neg, i_lt, i_le, i_eq, i_tm, i_div, i_j, j_i, j_add, j_sub, j_mul, j_neg, j_lt, j_le, j_eq, j_div, c_lt, c_le, c_gt, c_ge, c_eq, i_nat, rz_k, Nat.add_zero, Nat.zero_add, Nat.add_assoc, Nat.reduceAdd, if_true, if_false, if_neg (show ¬ 20 ≤ (k : Int) by omega), gf_eq h5, List.getElem?_cons_zero, List.getElem?_cons_succ, al_eq h7, al_eq h8, Int.reduceToNat, Int.toNat_natCast, p0, q0, pk, qk, eq_false c]
      rfl
theorem x_aside {s : List (Int × Int)} {r : Nat → Int × Int} (hs : v_st w s) (hb : zt_bd s) (hr : ∀ k, k < 20 → s.reverse[k]? = some (r k)) : rz_ex X (d + 1) 95 [.ref 5] w = some (.inl (some (.int (Int32.ofInt (zt_asI (zt_as2 r 19 1))))), w, 0, 0) := by
  obtain ⟨L, P, Q, h5, h6, h7, h8, hrp⟩ := hs
  have := l_aside (X := X) (d := d) (nc := 0) (ns := 0) h5 h7 h8 (r := r) (fun k hk => by
    obtain ⟨z1, z2, z3⟩ := zt_rp_at s hrp k _ (hr k hk)
    have := hb (r k) (List.mem_reverse.mp (List.mem_of_getElem? (hr k hk)))
    exact ⟨z2, z3, this.1, this.2⟩) 19 1 rfl
  rw [← this]
  simp (disch := first | exact nl_i | exact nl_r | exact nl_0 | exact nl_n | exact nl_x | exact kd_r | exact kd_n | exact kd_x | exact kd_o | exact cats0 | exact cats1 | exact cats2 | exact cats3 | exact cats4 | exact nr_i | exact nr_l | exact nr_z0 | exact nr_z1 | exact ft_i | exact ft_l | omega | rfl | assumption | (refine i_ne0 ?_ ?_ ?_ <;> omega) | (refine j_ne0 ?_ ?_ ?_ <;> omega) | (refine i_new ?_ ?_ <;> omega) | (refine bl_t ?_; with_unfolding_all rfl) | exact ft_z0 | exact ft_z1) only [n_X8_firstAside, q_X8_firstAside_0, q_X8_firstAside_1, i_add, i_sub, i_mul, i_neg, i_lt, i_le, i_eq, i_tm, i_div, i_j, j_i, j_add, j_sub, j_mul, j_neg, j_lt, j_le, j_eq, j_div, c_lt, c_le, c_gt, c_ge, c_eq, i_nat, rz_k, Nat.add_zero, Nat.zero_add, Nat.add_assoc, Nat.reduceAdd, if_true, if_false]
  rfl
end RZSV
